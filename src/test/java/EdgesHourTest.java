/** Promises 10 and 21 at their bounds: HOURS, what each law is brought to, values, rains written down. */
public final class EdgesHourTest {
    private static final Due due = new Due();
    private static final Edges village = new Edges(due, Village::anew);
    private static final Edges full = new Edges(due, Village::full);
    private static final Edges empty = new Edges(due, OwnRain::new);
    private static final String FIELD = "field 0 needs 0 drowns 999;";
    /** What a law can come to, around each bound that is told of one. */
    private static final int[] VALUES = {-1000000, -9999, -100, -1, 0, 1, 9, 10, 11, 49, 50, 51, 98, 99, 100, 101, 999, 1000, 9999, 1000000};

    public static void main(String[] args) {
        hoursAtOnce();
        beyond999();
        eachIsAStep();
        thoseAheadHaveSweated();
        sweatIsBrought();
        cloudTakes999();
        fullOrMore();
        rainIsBrought();
        taxIsBroughtAndCut();
        needsAndDrowns();
        driesIsBrought();
        theOrderOfAnHour();
        theHourOfALaw();
        overAMillion();
        division();
        old();
        sumsOfThoseThere();
        without();
        rainsAsked();
        theLatest40();
        due.close();
    }

    /** A SUM that comes to a value, in signs that a TEXT can have. */
    private static String sum(int value) {
        String parts = Math.abs(value) / 1000 + "*1000+" + Math.abs(value) % 1000;
        return value < 0 ? "-(" + parts + ")" : parts;
    }

    private static OwnRain one(String laws, int full, int cloud) {
        OwnRain x = Due.played(laws + FIELD);
        x.person(full, 1, 0, cloud);
        return x;
    }

    private static void hoursAtOnce() {
        due.about("10: HOURS pass (1 .. 30)");
        village.does("hour(_)", 1, 30, -1, (x, v) -> x.hour(v), v -> rains(Village.anew(), v));
        empty.does("hour(_)", 1, 30, -1, (x, v) -> x.hour(v), v -> 0);
        for (int n : new int[] {1, 2, 29, 30}) {
            OwnRain x = Village.anew();
            x.hour(n);
            due.is("HOUR behind " + n, x.about(2), 3 + n);
        }
    }

    /** How often it rains, HOUR by HOUR. */
    private static int rains(OwnRain x, int n) {
        int rains = 0;
        for (int i = 0; i < n; i++) {
            rains += x.hour(1);
        }
        return rains;
    }

    private static void beyond999() {
        due.about("10: NONE beyond 999");
        for (int hour : new int[] {968, 969, 970, 990, 998, 999}) {
            Edges late = new Edges(due, () -> {
                OwnRain x = new OwnRain();
                x.field(1, 1, 2);
                Village.atHour(x, hour);
                return x;
            });
            late.does("hour(_) at " + hour, 1, Math.min(30, 999 - hour), -1, (x, v) -> x.hour(v), v -> 0);
        }
        full.does("hour(_) at 999", 1, 30, -1, (x, v) -> x.hour(v), v -> -1);
    }

    private static void eachIsAStep() {
        due.about("10: an HOUR (each) is a STEP");
        for (int n : new int[] {1, 2, 29, 30}) {
            OwnRain x = new OwnRain();
            x.hour(n);
            due.is("STEPS", x.about(9), n);
            due.is("one is taken back", x.undo(), n - 1);
            due.is("HOUR then", x.about(2), n - 1);
        }
    }

    private static void thoseAheadHaveSweated() {
        due.about("I: by PEOPLE, each as all stand then (those ahead have sweated)");
        OwnRain x = Due.played("sweat sum cloud end+1;rain 0;" + FIELD + "one 99 age 1 on 0;".repeat(7) + "hour 1;");
        for (int p = 0; p < 7; p++) {
            due.is("CLOUD of " + p, x.ofPerson(p, 3), 1 << p);
        }
        due.is("SWEATED", x.about(4), 127);
    }

    private static void sweatIsBrought() {
        due.about("II: sweat: 0 at least, 99 at most");
        for (int value : VALUES) {
            OwnRain x = one("sweat " + sum(value) + ";rain 0;", 99, 0);
            int want = Math.max(0, Math.min(99, value));
            due.is("now by " + value, x.ofPerson(0, 5), want);
            x.hour(1);
            due.is("CLOUD by " + value, x.ofPerson(0, 3), want);
            due.is("SWEATED by " + value, x.about(4), want);
        }
    }

    private static void cloudTakes999() {
        due.about("II: CLOUD is 999 at most: no more is sweated");
        for (int cloud : new int[] {0, 899, 900, 901, 998, 999}) {
            OwnRain x = one("sweat 99;rain 0;", 99, cloud);
            x.hour(1);
            due.is("CLOUD from " + cloud, x.ofPerson(0, 3), Math.min(999, cloud + 99));
            due.is("SWEATED from " + cloud, x.about(4), Math.min(99, 999 - cloud));
            due.is("WATER from " + cloud, x.water(), cloud);
        }
    }

    private static void fullOrMore() {
        due.about("I: one whose CLOUD is FULL or more RAINS");
        for (int full : new int[] {1, 2, 50, 98, 99}) {
            for (int more = -1; more <= 1; more++) {
                OwnRain x = one("", full, full + more);
                due.is("FULL " + full + ", CLOUD " + (full + more), x.hour(1), more < 0 ? 0 : 1);
                due.is("CLOUD then", x.ofPerson(0, 3), more < 0 ? full - 1 : 0);
                OwnRain y = one("sweat 1;", full, full + more - (full + more > 0 ? 1 : 0));
                due.is("by sweat of that HOUR", y.hour(1), full + more > 0 && more < 0 ? 0 : 1);
            }
        }
        due.is("999", one("", 1, 999).hour(1), 1);
        due.is("0 is below 1", one("", 1, 0).hour(1), 0);
    }

    private static void rainIsBrought() {
        due.about("II: rain: 0 at least, CLOUD at most");
        for (int cloud : new int[] {10, 50, 99, 999}) {
            for (int value : VALUES) {
                OwnRain x = one("rain " + sum(value) + ";dries 0;", 10, cloud);
                int want = Math.max(0, Math.min(cloud, value));
                due.is("it RAINS by " + value, x.hour(1), 1);
                due.is("how much of " + cloud + " by " + value, x.rained(0, 3), want);
                due.is("CLOUD", x.ofPerson(0, 3), cloud - want);
                due.is("WET", x.ofField(0, 3), want);
            }
        }
    }

    private static void taxIsBroughtAndCut() {
        due.about("II: tax: 0 at least, 10 at most");
        for (int value : VALUES) {
            OwnRain x = one("tax " + sum(value) + ";dries 0;", 10, 99);
            x.hour(1);
            int want = 99 * Math.max(0, Math.min(10, value)) / 10;
            due.is("CISTERN by " + value, x.about(3), want);
            due.is("WET by " + value, x.ofField(0, 3), 99 - want);
            due.is("how much it rained", x.rained(0, 3), 99);
        }
        due.about("I: out of 10 of that, cut, tax goes to the CISTERN, what is left makes the FIELD WET");
        for (int rain : new int[] {0, 1, 9, 10, 11, 19, 20, 99, 998, 999}) {
            for (int tax = 0; tax <= 10; tax++) {
                OwnRain x = one("rain " + sum(rain) + ";tax " + tax + ";dries 0;", 1, 999);
                x.hour(1);
                due.is("CISTERN of " + rain + " by " + tax, x.about(3), rain * tax / 10);
                due.is("WET of " + rain + " by " + tax, x.ofField(0, 3), rain - rain * tax / 10);
                due.is("CLOUD less by rain", x.ofPerson(0, 3), 999 - rain);
            }
        }
    }

    private static void needsAndDrowns() {
        due.about("I: if WET is NEEDS or more and below DROWNS, GROWN is one more; if it is DROWNS or more, FLOODED is");
        int[][] bounds = {{0, 1}, {0, 2}, {1, 2}, {5, 6}, {10, 20}, {998, 999}, {0, 999}};
        for (int[] b : bounds) {
            for (int wet : new int[] {0, b[0] - 1, b[0], b[0] + 1, b[1] - 1, b[1], b[1] + 1, 999}) {
                if (wet >= 0 && wet <= 999) {
                    OwnRain x = new OwnRain();
                    x.field(9, b[0], b[1]);
                    x.person(1, 1, 0, wet);
                    x.hour(1);
                    String how = " by NEEDS " + b[0] + ", DROWNS " + b[1] + ", WET " + wet;
                    due.is("GROWN" + how, x.ofField(0, 4), wet >= b[0] && wet < b[1] ? 1 : 0);
                    due.is("FLOODED" + how, x.ofField(0, 5), wet >= b[1] ? 1 : 0);
                }
            }
        }
    }

    private static void driesIsBrought() {
        due.about("II: dries: 0 at least, WET at most");
        for (int wet : new int[] {0, 1, 50, 99, 999}) {
            for (int value : VALUES) {
                OwnRain x = one("dries " + sum(value) + ";", 1, wet);
                x.hour(1);
                int want = Math.max(0, Math.min(wet, value));
                due.is("WET of " + wet + " by " + value, x.ofField(0, 3), wet - want);
                due.is("DRIED of " + wet + " by " + value, x.about(5), want);
            }
        }
        due.about("II: dries without: HEAT (WET at most)");
        for (int heat = 0; heat <= 9; heat++) {
            for (int wet = 0; wet <= 11; wet++) {
                OwnRain x = new OwnRain();
                x.field(heat, 0, 1);
                x.person(1, 1, 0, wet);
                x.hour(1);
                due.is("WET " + wet + " by HEAT " + heat, x.ofField(0, 3), Math.max(0, wet - heat));
                due.is("DRIED", x.about(5), Math.min(wet, heat));
            }
        }
    }

    private static void theOrderOfAnHour() {
        due.about("I: all sweat ahead of any rain, all rain ahead of any drying");
        OwnRain x = Due.played("sweat 5;rain sum cloud end;dries sum cloud end;" + FIELD);
        x.person(5, 1, 0, 0);
        x.person(99, 1, 0, 0);
        x.hour(1);
        due.is("the first rains no more than it has", x.rained(0, 3), 5);
        due.is("what is left dries", x.about(5), 5);
        OwnRain y = Due.played("rain wet+1;" + FIELD);
        for (int p = 0; p < 8; p++) {
            y.person(1, 1, 0, 999);
        }
        y.hour(1);
        for (int p = 0; p < 8; p++) {
            due.is("those ahead have rained: " + p, y.rained(p, 3), 1 << p);
        }
        due.about("I: by FIELDS, GROWN ahead of drying");
        OwnRain z = Due.played("dries 9999;field 0 needs 7 drowns 8;field 0 needs 8 drowns 9;");
        z.person(1, 1, 0, 7);
        z.person(1, 1, 1, 8);
        z.hour(2);
        due.is("the first", z.ofField(0, 4), 1);
        due.is("the second", z.ofField(1, 4), 1);
        due.is("dry", z.ofField(0, 3) + z.ofField(1, 3), 0);
    }

    private static void theHourOfALaw() {
        due.about("I: then HOUR is one more");
        OwnRain x = one("sweat hour;rain hour;dries hour;", 99, 0);
        for (int h = 0; h <= 13; h++) {
            due.is("now in HOUR " + h, x.ofPerson(0, 5), h);
            due.is("CLOUD ahead of it", x.ofPerson(0, 3), h * (h - 1) / 2);
            x.hour(1);
        }
        OwnRain late = one("", 99, 0);
        Village.atHour(late, 998);
        Due.read(late, "sweat hour-900;");
        late.by(1);
        due.is("HOUR 998", late.ofPerson(0, 5), 98);
        late.hour(1);
        due.is("the last one", late.ofPerson(0, 3), 98);
        due.is("HOUR 999", late.ofPerson(0, 5), 99);
    }

    private static int value(String sum) {
        return one("sweat " + sum + ";", 99, 0).ofPerson(0, 5);
    }

    private static void overAMillion() {
        due.about("II: what is above 1000000 (below the same less) is that, at each step");
        due.is("999999", value("999*1000+999-9999*100"), 99);
        due.is("1000000", value("1000*1000-9999*100-50"), 50);
        due.is("1000001", value("1000*1000+1-9999*100-50"), 50);
        due.is("1001 * 1000", value("1001*1000-9999*100-50"), 50);
        due.is("9999 * 9999", value("9999*9999-9999*100-50"), 50);
        due.is("1000000 * 1000000", value("(1000*1000)*(1000*1000)-9999*100-50"), 50);
        due.is("1000000 + 1000000", value("1000*1000+1000*1000-9999*100-50"), 50);
        due.is("-999999", value("-999*1000-999+9999*100+98"), 0);
        due.is("-999999 and 199", value("-999*1000-999+9999*100+150"), 51);
        due.is("-1000000", value("-1000*1000+9999*100+150"), 50);
        due.is("-1000001", value("-1000*1000-1+9999*100+150"), 50);
        due.is("9999 * -9999", value("9999*-9999+9999*100+150"), 50);
        due.is("1000000 * -1000000", value("(1000*1000)*(-1000*1000)+9999*100+150"), 50);
        due.is("-1000000 - 1000000", value("-1000*1000-1000*1000+9999*100+150"), 50);
        due.is("1000000 - -1000000", value("1000*1000--(1000*1000)-9999*100-50"), 50);
        due.is("of a million and one the one is gone", value("1000*1000+1-1000*1000"), 0);
        due.is("of a million less one it isn't", value("1000*1000-1-9999*100-50"), 49);
        due.is("- of a million", value("-(1000*1000)+9999*100+150"), 50);
        due.about("II: of sum, too");
        for (int many = 1; many <= 8; many++) {
            OwnRain x = Due.played("sweat sum 500*500 end/9999/2;" + FIELD);
            OwnRain y = Due.played("sweat sum 500*500*(1-who/5*2) end/9999/2;" + FIELD);
            for (int p = 0; p < many; p++) {
                x.person(99, 1, 0, 0);
                y.person(99, 1, 0, 0);
            }
            due.is("250000 " + many + " times", x.ofPerson(0, 5), Math.min(1000000, many * 250000) / 9999 / 2);
            // Five add up to a million at most, of which each one more takes a quarter.
            int left = many <= 5 ? Math.min(1000000, many * 250000) : 1000000 - (many - 5) * 250000;
            due.is("less again, " + many, y.ofPerson(0, 5), left / 9999 / 2);
        }
        due.about("II: of sum, below");
        OwnRain low = Due.played("sweat sum -600*1000 end+9999*100+150;" + FIELD + "one 9 age 1 on 0;one 9 age 1 on 0;");
        due.is("-1200000", low.ofPerson(0, 5), 50);
    }

    private static void division() {
        due.about("II: / cuts towards 0, by 0 it is 0");
        for (int over = -7; over <= 7; over++) {
            for (int under = -3; under <= 3; under++) {
                int want = 50 + (under == 0 ? 0 : over / under);
                due.is(over + " / " + under, value("50+(" + sum(over) + ")/(" + sum(under) + ")"), want);
            }
        }
        due.is("0 / 0", value("7+0/0"), 7);
        due.is("a million / 0", value("7+1000*1000/0"), 7);
        due.is("a million / a million", value("1000*1000/(1000*1000)"), 1);
        due.is("a million less one / a million", value("7+(1000*1000-1)/(1000*1000)"), 7);
        due.is("-a million / 1", value("(-1000*1000)/1+9999*100+150"), 50);
        due.is("-a million / -1", value("(-1000*1000)/-1-9999*100-50"), 50);
    }

    private static void old() {
        due.about("II: old (AGE above 59: 1, 0)");
        for (int age : new int[] {0, 58, 59, 60, 61, 99}) {
            OwnRain x = Due.played("sweat old*9+1;" + FIELD);
            x.person(99, age, 0, 0);
            due.is("AGE " + age, x.ofPerson(0, 5), age > 59 ? 10 : 1);
        }
    }

    private static void sumsOfThoseThere() {
        due.about("II: sum, count of all who are on that FIELD");
        String fields = "field 1 needs 0 drowns 9;field 2 needs 0 drowns 9;";
        for (int there = 0; there <= 7; there++) {
            OwnRain x = Due.played("dries sum 1 end*10+count who>=0 end;sweat sum 1 end;" + fields);
            x.person(1, 1, 1, 500);
            for (int p = 1; p < 8; p++) {
                x.person(99, 1, p <= there ? 0 : 1, 0);
            }
            due.is("alone or not, " + there, x.ofPerson(0, 5), 8 - there);
            x.hour(1);
            due.is("nobody or some, " + there, x.about(5), 11 * (8 - there));
        }
    }

    private static void without() {
        due.about("II: without: sweat WORK, rain CLOUD, tax 0");
        for (int work = 0; work <= 9; work++) {
            OwnRain x = one("", 99, 0);
            x.work(0, work);
            x.hour(1);
            due.is("CLOUD by WORK " + work, x.ofPerson(0, 3), work);
        }
        OwnRain y = one("sweat 7;rain 3;tax 5;dries 0;", 5, 50);
        y.by(-1);
        y.hour(1);
        due.is("all of the CLOUD", y.rained(0, 3), 50);
        due.is("no tax", y.about(3), 0);
        due.is("no sweat", y.about(4), 0);
        y.by(0);
        y.hour(1);
        due.is("sweat by law again", y.about(4), 7);
    }

    private static void rainsAsked() {
        due.about("21: how many (i NONE), the i-th; -2 if there is none such, and for others");
        int[][] rains = {{1, 1, 0, 11}, {0, 2, 0, 23}};
        for (int what = 0; what < 4; what++) {
            int asked = what;
            village.asks("rained(_, " + what + ")", -1, 1, -2, (x, v) -> x.rained(v, asked), v -> v == -1 ? 2 : rains[v][asked]);
        }
        village.asks("rained(0, _)", 0, 3, -2, (x, v) -> x.rained(0, v), v -> rains[0][v]);
        village.asks("rained(1, _)", 0, 3, -2, (x, v) -> x.rained(1, v), v -> rains[1][v]);
        village.asks("rained(2, _)", 0, 3, -2, (x, v) -> x.rained(2, v), v -> -2);
        empty.asks("rained(_, 0)", -1, -1, -2, (x, v) -> x.rained(v, 0), v -> 0);
        full.asks("rained(_, 2)", -1, 39, -2, (x, v) -> x.rained(v, 2), v -> v == -1 ? 40 : Village.full().rained(v, 0) % 6);
    }

    private static void theLatest40() {
        due.about("21: the latest 40, from the eldest on; 0, too");
        OwnRain x = Due.played("sweat hour;rain (hour-hour/3*3)*9;" + FIELD);
        x.person(1, 1, 0, 999);
        for (int hours = 1; hours <= 95; hours++) {
            x.hour(1);
            int many = Math.min(40, hours);
            due.is("how many behind " + hours, x.rained(-1, 0), many);
            due.is("the eldest's HOUR", x.rained(0, 1), hours - many);
            due.is("the eldest's rain", x.rained(0, 3), (hours - many) % 3 * 9);
            due.is("the latest's HOUR", x.rained(many - 1, 1), hours - 1);
            due.is("none behind it", x.rained(many, 1), -2);
        }
        for (int i = 0; i < 40; i++) {
            due.is("HOUR of " + i, x.rained(i, 1), 55 + i);
        }
        x.undo();
        due.is("with one taken back the eldest comes again", x.rained(0, 1), 54);
        due.about("21: PERSON, HOUR, FIELD, how much at their greatest");
        OwnRain late = new OwnRain();
        for (int f = 0; f < 6; f++) {
            late.field(0, 0, 1);
        }
        for (int p = 0; p < 8; p++) {
            late.person(99, 1, 5, 0);
        }
        Village.atHour(late, 998);
        for (int i = 0; i < 8; i++) {
            late.shake(0, 7);
        }
        Due.read(late, "sweat who/7*99;");
        late.by(0);
        late.hour(1);
        int[] want = {7, 998, 5, 99};
        for (int what = 0; what < 4; what++) {
            due.is("rained(0, " + what + ")", late.rained(0, what), want[what]);
        }
        OwnRain most = one("", 1, 999);
        most.hour(1);
        due.is("999 drops", most.rained(0, 3), 999);
    }
}
