/**
 * Promises 1 to 4, 19, 20 and 42 at their bounds: FIELDS, ROADS and PEOPLE that are told, and what is
 * asked of them.
 */
public final class EdgesToldTest {
    private static final Due due = new Due();
    private static final Edges village = new Edges(due, Village::anew);
    private static final Edges full = new Edges(due, Village::full);
    private static final Edges empty = new Edges(due, OwnRain::new);
    private static final int MAX = Integer.MAX_VALUE;
    private static final int MIN = Integer.MIN_VALUE;

    public static void main(String[] args) {
        aNewObject();
        fields();
        sixFields();
        roads();
        people();
        eightPeople();
        whatIsToldIsNoStep();
        ofField();
        ofPerson();
        sweatNow();
        whereIsKept();
        about();
        due.close();
    }

    private static void aNewObject() {
        due.about("1: no FIELDS; WET, GROWN, FLOODED, WORK, CISTERN, SWEATED, DRIED, HOUR at first 0, X 37");
        OwnRain x = new OwnRain();
        int[] at = {0, 0, 0, 0, 0, 0, 37, 0, -1, 0, 0, 0, 0, 0};
        for (int what = 0; what < at.length; what++) {
            due.is("about(" + what + ")", x.about(what), at[what]);
        }
        due.is("rained(-1, 0)", x.rained(-1, 0), 0);
        x.field(9, 999 - 1, 999);
        x.person(99, 99, 0, 999);
        due.is("WET at first", x.ofField(0, 3), 0);
        due.is("GROWN at first", x.ofField(0, 4), 0);
        due.is("FLOODED at first", x.ofField(0, 5), 0);
        due.is("no ROADS at first", x.ofField(0, 7), 0);
        due.is("WORK at first", x.ofPerson(0, 4), 0);
        due.about("1: THE IMAGE is this");
        OwnRain told = Village.anew();
        OwnRain back = new OwnRain();
        back.field(1, 2, 3);
        back.person(4, 5, 0, 6);
        back.hour(7);
        Due.read(back, "tax 3;");
        back.by(0);
        back.missing(0, 0, 0);
        back.forecast(1, true);
        back.offer(true, 1, 1);
        due.is("back()", back.back(), 0);
        due.is("all of a new object but the latest FAULT", Seen.of(back).equals(Seen.of(new OwnRain())), true);
        due.is("another object has nothing of it", Seen.of(told).equals(Seen.of(Village.anew())), true);
    }

    private static void fields() {
        due.about("2: HEAT 0 .. 9");
        village.does("field(_, 0, 1)", 0, 9, -1, (x, v) -> x.field(v, 0, 1), v -> 4);
        due.about("2: NEEDS 0 .. 999, DROWNS above NEEDS");
        village.does("field(0, _, 999)", 0, 998, -1, (x, v) -> x.field(0, v, 999), v -> 4);
        village.does("field(0, _, 500)", 0, 499, -1, (x, v) -> x.field(0, v, 500), v -> 4);
        village.does("field(0, _, MAX)", 0, 0, -1, (x, v) -> x.field(0, v, MAX), v -> -1);
        due.about("2: DROWNS 1 .. 999 (above NEEDS)");
        village.does("field(0, 0, _)", 1, 999, -1, (x, v) -> x.field(0, 0, v), v -> 4);
        village.does("field(0, 500, _)", 501, 999, -1, (x, v) -> x.field(0, 500, v), v -> 4);
        village.does("field(0, 998, _)", 999, 999, -1, (x, v) -> x.field(0, 998, v), v -> 4);
        village.does("field(0, 999, _)", 999, 1000, -1, (x, v) -> x.field(0, 999, v), v -> -1);
        village.does("field(0, -1, _)", 0, 1, -1, (x, v) -> x.field(0, -1, v), v -> -1);
        due.about("2: what was told is told back");
        for (int heat : new int[] {0, 1, 8, 9}) {
            OwnRain x = new OwnRain();
            x.field(heat, heat * 110 - heat, 999 - heat);
            due.is("HEAT", x.ofField(0, 0), heat);
            due.is("NEEDS", x.ofField(0, 1), heat * 110 - heat);
            due.is("DROWNS", x.ofField(0, 2), 999 - heat);
        }
    }

    private static void sixFields() {
        due.about("2: NONE if there are 6");
        OwnRain x = new OwnRain();
        for (int f = 0; f < 6; f++) {
            due.is("field " + f, x.field(1, 1, 2), f);
            due.is("how many", x.about(0), f + 1);
        }
        due.is("a seventh", x.field(1, 1, 2), -1);
        due.is("six", x.about(0), 6);
        full.does("field(_, 0, 1)", 0, 9, -1, (y, v) -> y.field(v, 0, 1), v -> -1);
        x.back();
        due.is("again from the first, the image having none", x.field(2, 2, 3), 0);
    }

    private static void roads() {
        due.about("3: false for others: two FIELDS that are told");
        village.does("road(_, 3)", 0, 2, 0, (x, v) -> is(x.road(v, 3)), v -> 1);
        village.does("road(3, _)", 0, 2, 0, (x, v) -> is(x.road(3, v)), v -> 1);
        due.about("3: false, if it is there");
        village.does("road(0, _)", 2, 3, 0, (x, v) -> is(x.road(0, v)), v -> 1);
        village.does("road(_, 1)", 0, 3, 0, (x, v) -> is(x.road(v, 1)), v -> v == 3 ? 1 : 0);
        full.does("road(_, 0)", 0, 5, 0, (x, v) -> is(x.road(v, 0)), v -> 0);
        full.does("road(5, _)", 0, 5, 0, (x, v) -> is(x.road(5, v)), v -> 0);
        empty.does("road(_, 0)", 0, 5, 0, (x, v) -> is(x.road(v, 0)), v -> 0);
        due.about("3: between two unlike FIELDS");
        village.does("road(_, _)", 0, 3, 0, (x, v) -> is(x.road(v, v)), v -> 0);
        due.about("3: both ways");
        OwnRain x = Village.anew();
        x.road(3, 0);
        due.is("from 0", x.ofField(0, 7), 2 + 8);
        due.is("from 3", x.ofField(3, 7), 1);
        due.is("the other way", x.road(0, 3), false);
        OwnRain all = Village.full();
        for (int f = 0; f < 6; f++) {
            due.is("fifteen roads, of " + f, all.ofField(f, 7), 63 - (1 << f));
        }
    }

    private static long is(boolean answer) {
        return answer ? 1 : 0;
    }

    private static void people() {
        due.about("4: FULL 1 .. 99");
        village.does("person(_, 0, 0, 0)", 1, 99, -1, (x, v) -> x.person(v, 0, 0, 0), v -> 4);
        due.about("4: AGE 0 .. 99");
        village.does("person(1, _, 0, 0)", 0, 99, -1, (x, v) -> x.person(1, v, 0, 0), v -> 4);
        due.about("4: on a FIELD");
        village.does("person(1, 0, _, 0)", 0, 3, -1, (x, v) -> x.person(1, 0, v, 0), v -> 4);
        empty.does("person(1, 0, _, 0)", 0, 5, -1, (x, v) -> x.person(1, 0, v, 0), v -> -1);
        due.about("4: CLOUD 0 .. 999");
        village.does("person(1, 0, 0, _)", 0, 999, -1, (x, v) -> x.person(1, 0, 0, v), v -> 4);
        due.about("4: what was told is told back");
        int[][] told = {{1, 0, 0, 0}, {99, 99, 3, 999}, {2, 1, 1, 1}, {98, 98, 2, 998}};
        OwnRain x = Village.anew();
        for (int p = 0; p < 4; p++) {
            due.is("person " + p, x.person(told[p][0], told[p][1], told[p][2], told[p][3]), 4 + p);
            for (int what = 0; what < 4; what++) {
                due.is("ofPerson(" + (4 + p) + ", " + what + ")", x.ofPerson(4 + p, what), told[p][what]);
            }
            due.is("WORK at first", x.ofPerson(4 + p, 4), 0);
        }
    }

    private static void eightPeople() {
        due.about("4: NONE if there are 8");
        OwnRain x = new OwnRain();
        x.field(0, 0, 1);
        for (int p = 0; p < 8; p++) {
            due.is("person " + p, x.person(1, 1, 0, 0), p);
            due.is("how many", x.about(1), p + 1);
        }
        due.is("a ninth", x.person(1, 1, 0, 0), -1);
        due.is("eight", x.about(1), 8);
        due.is("all on one FIELD", x.ofField(0, 6), 255);
        full.does("person(_, 0, 0, 0)", 1, 99, -1, (y, v) -> y.person(v, 0, 0, 0), v -> -1);
    }

    private static void whatIsToldIsNoStep() {
        due.about("2 to 4: no STEPS");
        OwnRain x = Village.anew();
        x.field(1, 1, 2);
        x.road(0, 3);
        x.person(1, 1, 0, 0);
        due.is("STEPS", x.about(9), 6);
    }

    private static void ofField() {
        due.about("19: of a FIELD");
        village.asks("ofField(_, 0)", 0, 3, -1, (x, v) -> x.ofField(v, 0), v -> 3 - v);
        village.asks("ofField(_, 3)", 0, 3, -1, (x, v) -> x.ofField(v, 3), v -> v == 0 ? 12 : 0);
        full.asks("ofField(_, 1)", 0, 5, -1, (x, v) -> x.ofField(v, 1), v -> v);
        empty.asks("ofField(_, 0)", 0, 5, -1, (x, v) -> x.ofField(v, 0), v -> -1);
        due.about("19: 0 .. 7, NONE for others");
        int[] first = {3, 10, 40, 12, 1, 0, 11, 2};
        int[] third = {1, 0, 20, 0, 3, 0, 4, 2};
        village.asks("ofField(0, _)", 0, 7, -1, (x, v) -> x.ofField(0, v), v -> first[v]);
        village.asks("ofField(2, _)", 0, 7, -1, (x, v) -> x.ofField(2, v), v -> third[v]);
        village.asks("ofField(4, _)", 0, 7, -1, (x, v) -> x.ofField(4, v), v -> -1);
        village.asks("ofField(-1, _)", 0, 7, -1, (x, v) -> x.ofField(-1, v), v -> -1);
    }

    private static void ofPerson() {
        due.about("20: of a PERSON");
        int[] cloud = {0, 3, 0, 998};
        village.asks("ofPerson(_, 3)", 0, 3, -2, (x, v) -> x.ofPerson(v, 3), v -> cloud[v]);
        full.asks("ofPerson(_, 0)", 0, 7, -2, (x, v) -> x.ofPerson(v, 0), v -> 3 + v);
        empty.asks("ofPerson(_, 0)", 0, 7, -2, (x, v) -> x.ofPerson(v, 0), v -> -2);
        village.asks("ofPerson(_, 10)", 0, 3, -2, (x, v) -> x.ofPerson(v, 10), v -> v == 3 ? -1 : v / 2);
        due.about("20: 0 .. 5, 10 + h; -2 for others");
        int[] second = {10, 70, 0, 3, 3, 3, -2, -2, -2, -2, 0, 0, 0};
        village.asksAny("ofPerson(1, _)", 0, 12, (x, v) -> x.ofPerson(1, v), v -> ofSecond(second, v));
        due.about("20: HOURS are 0 .. 999");
        village.asksAny("ofPerson(1, _)", 10, 10 + 999, (x, v) -> x.ofPerson(1, v), v -> ofSecond(second, v));
        village.asks("ofPerson(4, _)", 0, 15, -2, (x, v) -> x.ofPerson(4, v), v -> -2);
        village.asks("ofPerson(-1, _)", 0, 15, -2, (x, v) -> x.ofPerson(-1, v), v -> -2);
    }

    /** Where nothing is told of what: NONE as far as there are HOURS. */
    private static long ofSecond(int[] told, int what) {
        if (what >= 0 && what < told.length) {
            return told[what];
        }
        return what >= 10 && what <= 10 + 999 ? -1 : -2;
    }

    private static void sweatNow() {
        due.about("20: 5 what it would sweat now, no more than its CLOUD takes");
        for (int cloud : new int[] {0, 899, 900, 901, 989, 990, 991, 998, 999}) {
            OwnRain x = Due.played("sweat 99;field 0 needs 0 drowns 9;");
            x.person(99, 1, 0, cloud);
            due.is("99 with CLOUD " + cloud, x.ofPerson(0, 5), Math.min(99, 999 - cloud));
            x.by(-1);
            x.work(0, 9);
            due.is("WORK 9 with CLOUD " + cloud, x.ofPerson(0, 5), Math.min(9, 999 - cloud));
        }
        due.about("20: 5 as if nobody ahead had sweated");
        OwnRain y = Due.played("sweat sum cloud end+1;rain 0;field 0 needs 0 drowns 9;one 9 age 1 on 0;one 9 age 1 on 0;");
        due.is("the second now", y.ofPerson(1, 5), 1);
        y.hour(1);
        due.is("the second in that HOUR", y.ofPerson(1, 3), 2);
    }

    private static void whereIsKept() {
        due.about("20: WHERE each was is kept for the latest 20 HOURS");
        OwnRain x = new OwnRain();
        x.field(0, 0, 1);
        x.field(0, 0, 1);
        x.road(0, 1);
        x.person(99, 1, 0, 0);
        for (int hours = 1; hours <= 45; hours++) {
            due.is("HOUR " + (hours - 1) + " ahead of it", x.ofPerson(0, 10 + hours - 1), -1);
            x.hour(1);
            due.is("HOUR " + (hours - 1) + " behind it", x.ofPerson(0, 10 + hours - 1), (hours - 1) / 7 % 2);
            if (hours >= 20) {
                due.is("the 20th latest behind " + hours, x.ofPerson(0, 10 + hours - 20), (hours - 20) / 7 % 2);
            }
            if (hours >= 21) {
                due.is("the 21st latest behind " + hours, x.ofPerson(0, 10 + hours - 21), -1);
            }
            if (hours % 7 == 0) {
                x.go(0, hours / 7 % 2);
            }
        }
        OwnRain late = Village.full();
        due.is("HOUR 998", late.ofPerson(7, 10 + 998), 1);
        due.is("HOUR 979", late.ofPerson(7, 10 + 979), 1);
        due.is("HOUR 978", late.ofPerson(7, 10 + 978), -1);
        due.is("HOUR 999", late.ofPerson(7, 10 + 999), -1);
        due.about("20: NONE: nowhere");
        OwnRain since = Village.anew();
        due.is("one told since", since.ofPerson(3, 12), -1);
        since.hour(1);
        due.is("and was there then", since.ofPerson(3, 13), 0);
        due.is("but not ahead of it", since.ofPerson(3, 12), -1);
    }

    private static void about() {
        due.about("42: 0 .. 13, -2 for others");
        int[] now = {4, 4, 3, 16, 21 + 3, 6, 37, 2, 0, 6, 2, 2, 3, 15};
        village.asks("about(_)", 0, 13, -2, (x, v) -> x.about(v), v -> now[v]);
        int[] most = {6, 8, 999, 0, 0, 0, 37, 4, 1, 30, 6, 12, 10, 300};
        full.asks("about(_)", 0, 13, -2, (x, v) -> x.about(v), v -> v >= 3 && v <= 5 ? x0(v) : most[v]);
        int[] least = {0, 0, 0, 0, 0, 0, 37, 0, -1, 0, 0, 0, 0, 0};
        empty.asks("about(_)", 0, 13, -2, (x, v) -> x.about(v), v -> least[v]);
        due.is("the greatest", new OwnRain().about(MAX), -2);
        due.is("the least", new OwnRain().about(MIN), -2);
    }

    /** Of the full village: nothing is taxed while HOURS pass, each of eight sweats 1 in each. */
    private static long x0(int what) {
        OwnRain x = Village.full();
        int left = 280;
        for (int i = 0; i < 6; i++) {
            left -= x.ofField(i, 3);
        }
        for (int p = 0; p < 8; p++) {
            left -= x.ofPerson(p, 3);
        }
        return what == 3 ? 0 : what == 4 ? 8 * 999 : left + 8 * 999;
    }
}
