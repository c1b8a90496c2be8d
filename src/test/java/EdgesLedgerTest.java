/** Promises 29 to 37 at their bounds: what is MISSING, THIEVES, FILLING, FORECASTS, and the MARKET. */
public final class EdgesLedgerTest {
    private static final Due due = new Due();
    private static final Edges village = new Edges(due, Village::anew);
    private static final Edges full = new Edges(due, Village::full);
    private static final Edges empty = new Edges(due, OwnRain::new);

    public static void main(String[] args) {
        missing();
        sixMissing();
        near();
        nearInTheseHours();
        nearAsFarAsItIsKept();
        suspects();
        thieves();
        filling();
        fillingJustFull();
        fillingOdds();
        forecasts();
        twelveForecasts();
        errors();
        bounds();
        offers();
        tenOffers();
        market();
        thePrice();
        due.close();
    }

    private static void missing() {
        due.about("29: of a PERSON; -2 for others (person NONE: none any more)");
        village.does("missing(_, 0, 0)", -1, 3, -2, (x, v) -> x.missing(v, 0, 0), v -> v == -1 ? 0 : 3);
        empty.takes("missing(_, 0, 0)", -1, -1, -2, (x, v) -> x.missing(v, 0, 0), v -> 0);
        due.about("29: HOURS 0 .. 999");
        village.does("missing(0, _, 999)", 0, 999, -2, (x, v) -> x.missing(0, v, 999), v -> 3);
        village.does("missing(0, 0, _)", 0, 999, -2, (x, v) -> x.missing(0, 0, v), v -> 3);
        due.about("29: the first no later");
        village.does("missing(0, 500, _)", 500, 999, -2, (x, v) -> x.missing(0, 500, v), v -> 3);
        village.does("missing(0, _, 500)", 0, 500, -2, (x, v) -> x.missing(0, v, 500), v -> 3);
        village.does("missing(0, 999, _)", 999, 999, -2, (x, v) -> x.missing(0, 999, v), v -> 3);
        village.does("missing(0, _, 1000)", 0, 999, -2, (x, v) -> x.missing(0, v, 1000), v -> -2);
        village.does("missing(0, -1, _)", 0, 999, -2, (x, v) -> x.missing(0, -1, v), v -> -2);
        village.does("missing(0, _, MAX)", 0, 999, -2, (x, v) -> x.missing(0, v, Integer.MAX_VALUE), v -> -2);
        village.does("missing(0, MIN, _)", 0, 999, -2, (x, v) -> x.missing(0, Integer.MIN_VALUE, v), v -> -2);
        due.about("29: none any more, whatever HOURS are told with it");
        village.does("missing(-1, _, 0)", Integer.MIN_VALUE, Integer.MAX_VALUE, -2, (x, v) -> x.missing(-1, v, 0), v -> 0);
    }

    private static void sixMissing() {
        due.about("29: 6 at most; -2 if there are 6");
        OwnRain x = Village.anew();
        x.missing(-1, 0, 0);
        for (int i = 1; i <= 6; i++) {
            due.is("number " + i, x.missing(i % 4, 0, i), i);
            due.is("about(10)", x.about(10), i);
        }
        due.is("a seventh", x.missing(0, 0, 0), -2);
        due.is("six", x.about(10), 6);
        full.does("missing(_, 0, 0)", -1, 7, -2, (y, v) -> y.missing(v, 0, 0), v -> v == -1 ? 0 : -2);
        due.is("none any more", x.missing(-1, 0, 0), 0);
        due.is("from one on", x.missing(3, 0, 0), 1);
        due.about("29: no STEP");
        due.is("STEPS", x.about(9), 6);
    }

    private static void near() {
        due.about("30: the i-th that is MISSING; -2 for others");
        // In HOURS 0 to 2 the first two were on FIELD 0, the third on FIELD 1, the fourth nowhere.
        village.asks("near(_)", -1, 1, -2, (x, v) -> x.near(v), v -> v == -1 ? 0 : v == 0 ? 2 : 1);
        empty.asks("near(_)", -1, -1, -2, (x, v) -> x.near(v), v -> 0);
        full.asks("near(_)", -1, 5, -2, (x, v) -> x.near(v), v -> v == -1 ? 0 : v == 0 ? 64 : v == 1 ? 128 : 0);
    }

    /** Two who are on one FIELD in HOURS from .. to alone, of 15 in all. */
    private static OwnRain meeting(int from, int to) {
        OwnRain x = new OwnRain();
        x.field(0, 0, 1);
        x.field(0, 0, 1);
        x.road(0, 1);
        x.person(99, 1, 0, 0);
        x.person(99, 1, 1, 0);
        for (int h = 0; h < 15; h++) {
            x.go(1, h >= from && h <= to ? 0 : 1);
            x.hour(1);
        }
        return x;
    }

    private static void nearInTheseHours() {
        due.about("30: who were on the same FIELD as it in one of these HOURS at least");
        for (int from = 4; from <= 10; from++) {
            for (int to = from; to <= 10; to++) {
                OwnRain x = meeting(6, 8);
                x.missing(0, from, to);
                x.missing(1, from, to);
                boolean met = from <= 8 && to >= 6;
                due.is("near the one " + from + " .. " + to, x.near(0), met ? 2 : 0);
                due.is("near the other " + from + " .. " + to, x.near(1), met ? 1 : 0);
            }
        }
        due.about("30: at the first and the latest HOUR");
        OwnRain first = meeting(0, 0);
        first.missing(0, 0, 0);
        first.missing(0, 1, 999);
        due.is("HOUR 0", first.near(0), 2);
        due.is("behind it", first.near(1), 0);
        OwnRain last = meeting(14, 14);
        last.missing(0, 14, 14);
        last.missing(0, 0, 13);
        last.missing(0, 15, 999);
        due.is("HOUR 14", last.near(0), 2);
        due.is("ahead of it", last.near(1), 0);
        due.is("in HOURS to come", last.near(2), 0);
        last.hour(1);
        due.is("in one that has come since", last.near(2), 2);
    }

    private static void nearAsFarAsItIsKept() {
        due.about("30: as far as it is kept");
        OwnRain x = meeting(5, 5);
        x.missing(0, 0, 999);
        x.missing(0, 5, 5);
        // Behind 25 HOURS the latest 20 are 5 to 24.
        x.hour(10);
        due.is("the 20th latest", x.near(0), 2);
        due.is("that HOUR alone", x.near(1), 2);
        x.hour(1);
        due.is("the 21st latest", x.near(0), 0);
        due.is("that HOUR alone", x.near(1), 0);
        x.undo();
        due.is("taken back", x.near(0), 2);
        Village.atHour(x, 999);
        due.is("at 999", x.near(0), 0);
        OwnRain late = Village.full();
        late.missing(-1, 0, 0);
        due.is("HOUR 979", late.missing(0, 979, 979), 1);
        due.is("HOUR 978", late.missing(0, 978, 978), 2);
        due.is("HOUR 999", late.missing(0, 999, 999), 3);
        due.is("is kept", late.near(0), 64);
        due.is("is not", late.near(1), 0);
        due.is("is to come", late.near(2), 0);
    }

    private static void suspects() {
        due.about("30: SUSPECTS: those who were NEAR for all that is MISSING; without any MISSING all");
        for (int people = 0; people <= 8; people++) {
            OwnRain x = new OwnRain();
            x.field(0, 0, 1);
            for (int p = 0; p < people; p++) {
                x.person(99, 1, 0, 0);
            }
            due.is("all of " + people, x.near(-1), (1 << people) - 1);
            x.hour(1);
            for (int p = 0; p < Math.min(6, people); p++) {
                x.missing(p, 0, 0);
                due.is("without those who miss, " + people, x.near(-1), (1 << people) - (2 << p));
            }
        }
    }

    private static void thieves() {
        due.about("31: the fewest; of like ones the lowest set; NONE: none");
        due.is("without any MISSING, of nobody", new OwnRain().thieves(), 0);
        OwnRain x = Village.anew();
        due.is("0 and 1 were near one another", x.thieves(), 3);
        x.missing(-1, 0, 0);
        due.is("without any MISSING", x.thieves(), 0);
        x.missing(2, 0, 2);
        due.is("nobody was near", x.thieves(), -1);
        x.missing(0, 0, 0);
        due.is("nor for all", x.thieves(), -1);
        OwnRain eight = new OwnRain();
        eight.field(0, 0, 1);
        for (int p = 0; p < 8; p++) {
            eight.person(99, 1, 0, 0);
        }
        eight.hour(1);
        eight.missing(7, 0, 0);
        due.is("the lowest of seven", eight.thieves(), 1);
        eight.missing(0, 0, 0);
        due.is("the lowest who was near both", eight.thieves(), 2);
        for (int p = 1; p <= 4; p++) {
            eight.missing(p, 0, 0);
        }
        due.is("the only one but the last", eight.thieves(), 32);
        OwnRain many = full();
        due.is("two, where each was near for some", many.thieves(), many.near(0) | many.near(1));
        due.is("six are MISSING", many.about(10), 6);
    }

    /** On FIELD 0 the PEOPLE 0 6, on FIELD 1 the PEOPLE 1 7; each misses three times. */
    private static OwnRain full() {
        OwnRain x = Village.full();
        x.missing(-1, 0, 0);
        for (int i = 0; i < 6; i++) {
            x.missing(i % 2, 980, 990 + i);
        }
        return x;
    }

    private static void filling() {
        due.about("32: of a PERSON; NONE for others");
        // CLOUDS 0 3 0 998 by FULL 20 10 15 99, with 10 for certain.
        village.asks("filling(_, 10, 10, 0, 1, false)", 0, 3, -1, (x, v) -> x.filling(v, 10, 10, 0, 1, false), v -> v % 2);
        empty.asks("filling(_, 1, 1, 1, 1, true)", 0, 7, -1, (x, v) -> x.filling(v, 1, 1, 1, 1, true), v -> -1);
        due.about("32: p out of 10 (0 .. 10)");
        int[] upper = {0, 1, 1, 3, 2, 1, 3, 7, 4, 9, 1};
        int[] lower = {1, 10, 5, 10, 5, 2, 5, 10, 5, 10, 1};
        village.asks("filling(0, _, 20, 0, 1, false)", 0, 10, -1, (x, v) -> x.filling(0, v, 20, 0, 1, false), v -> upper[v]);
        village.asks("filling(0, _, 20, 0, 1, true)", 0, 10, -1, (x, v) -> x.filling(0, v, 20, 0, 1, true), v -> lower[v]);
        due.about("32: a, b (0 .. 99 each)");
        village.asks("filling(0, 10, _, 0, 1, false)", 0, 99, -1, (x, v) -> x.filling(0, 10, v, 0, 1, false), v -> v >= 20 ? 1 : 0);
        village.asks("filling(0, 0, 0, _, 1, false)", 0, 99, -1, (x, v) -> x.filling(0, 0, 0, v, 1, false), v -> v >= 20 ? 1 : 0);
        village.asks("filling(0, 5, _, 0, 1, true)", 0, 99, -1, (x, v) -> x.filling(0, 5, v, 0, 1, true), v -> v >= 20 ? 2 : 1);
        due.about("32: n HOURS (0 .. 15)");
        village.asks("filling(0, 10, 2, 0, _, false)", 0, 15, -1, (x, v) -> x.filling(0, 10, 2, 0, v, false), v -> v >= 10 ? 1 : 0);
        village.asks("filling(3, 5, 0, 0, _, true)", 0, 15, -1, (x, v) -> x.filling(3, 5, 0, 0, v, true), v -> 1);
        village.asks("filling(0, 5, 20, 0, _, true)", 0, 15, -1, (x, v) -> x.filling(0, 5, 20, 0, v, true), v -> 1L << v);
        village.asks("filling(0, 5, 20, 0, _, false)", 0, 15, -1, (x, v) -> x.filling(0, 5, 20, 0, v, false), v -> (1L << v) - 1);
        village.asks("filling(0, 11, 1, 1, _, true)", 0, 15, -1, (x, v) -> x.filling(0, 11, 1, 1, v, true), v -> -1);
    }

    private static void fillingJustFull() {
        due.about("32: that one's CLOUD is FULL or more");
        for (int lacking = -1; lacking <= 1; lacking++) {
            OwnRain x = new OwnRain();
            x.field(0, 0, 1);
            x.person(50, 1, 0, 50 - lacking);
            due.is("now by " + lacking, x.filling(0, 5, 9, 9, 0, false), lacking <= 0 ? 1 : 0);
            due.is("now by " + lacking + ", lower", x.filling(0, 5, 9, 9, 0, true), 1);
        }
        for (int cloud = 8; cloud <= 12; cloud++) {
            OwnRain x = new OwnRain();
            x.field(0, 0, 1);
            x.person(20, 1, 0, cloud);
            due.is("by 5 and 5 from " + cloud, x.filling(0, 10, 5, 0, 2, false), cloud >= 10 ? 1 : 0);
        }
        due.about("32: without rain");
        OwnRain y = new OwnRain();
        y.field(0, 0, 1);
        y.person(10, 1, 0, 0);
        due.is("it stays FULL", y.filling(0, 10, 10, 0, 15, false), 1);
        due.is("and a CLOUD of 999 goes on", Village.anew().filling(3, 10, 99, 99, 15, false), 1);
    }

    private static void fillingOdds() {
        due.about("32: in lowest terms, up to 10 to the 15");
        OwnRain x = new OwnRain();
        x.field(0, 0, 1);
        x.person(15, 1, 0, 0);
        long lower = 1;
        for (int n = 0; n < 15; n++) {
            due.is("none in " + n, x.filling(0, 1, 1, 0, n, false), 0);
            due.is("none in " + n + ", lower", x.filling(0, 1, 1, 0, n, true), 1);
            lower *= 10;
        }
        due.is("all of 15 hot, 1 out of 10", x.filling(0, 1, 1, 0, 15, false), 1);
        due.is("lower", x.filling(0, 1, 1, 0, 15, true), lower);
        due.is("none of 15 hot, 9 out of 10", x.filling(0, 1, 0, 1, 15, false), 205891132094649L);
        due.is("lower", x.filling(0, 1, 0, 1, 15, true), lower);
        OwnRain y = new OwnRain();
        y.field(0, 0, 1);
        y.person(1, 1, 0, 0);
        due.is("one at least of 15", y.filling(0, 1, 1, 0, 15, false), lower - 205891132094649L);
        due.is("lower", y.filling(0, 1, 1, 0, 15, true), lower);
    }

    private static void forecasts() {
        due.about("33: 0 .. 9; -2 for others (forecast NONE: none any more)");
        village.does("forecast(_, true)", -1, 9, -2, (x, v) -> x.forecast(v, true), v -> v == -1 ? 0 : 3);
        village.does("forecast(_, false)", -1, 9, -2, (x, v) -> x.forecast(v, false), v -> v == -1 ? 0 : 3);
        empty.takes("forecast(_, true)", -1, 9, -2, (x, v) -> x.forecast(v, true), v -> v == -1 ? 0 : 1);
    }

    private static void twelveForecasts() {
        due.about("33: 12 at most; -2 if there are 12");
        OwnRain x = new OwnRain();
        for (int i = 1; i <= 12; i++) {
            due.is("number " + i, x.forecast(i % 10, true), i);
            due.is("about(11)", x.about(11), i);
        }
        due.is("a thirteenth", x.forecast(0, true), -2);
        due.is("all of them are missed by 10", x.errors(10, true), 12);
        full.does("forecast(_, true)", -1, 9, -2, (y, v) -> y.forecast(v, true), v -> v == -1 ? 0 : -2);
        due.is("none any more", x.forecast(-1, true), 0);
        due.is("none is missed", x.errors(10, true), 0);
        due.is("from one on", x.forecast(9, false), 1);
        due.is("the one alone counts", x.errors(0, false), 1);
    }

    private static void errors() {
        due.about("34: a bound t (0 .. 10); NONE for others");
        village.asks("errors(_, true)", 0, 10, -1, (x, v) -> x.errors(v, true), v -> v > 7 ? 1 : 0);
        village.asks("errors(_, false)", 0, 10, -1, (x, v) -> x.errors(v, false), v -> v <= 3 ? 1 : 0);
        empty.asks("errors(_, true)", 0, 10, -1, (x, v) -> x.errors(v, true), v -> 0);
        empty.asks("errors(_, false)", 0, 10, -1, (x, v) -> x.errors(v, false), v -> 0);
        due.about("34: hot is foretold, if the FORECAST is t or more");
        for (int forecast = 0; forecast <= 9; forecast++) {
            for (int t = 0; t <= 10; t++) {
                OwnRain hot = new OwnRain();
                hot.forecast(forecast, true);
                OwnRain cold = new OwnRain();
                cold.forecast(forecast, false);
                String how = " of " + forecast + " by " + t;
                due.is("MISSES" + how, hot.errors(t, true), forecast >= t ? 0 : 1);
                due.is("no FALSE ALARM" + how, hot.errors(t, false), 0);
                due.is("FALSE ALARMS" + how, cold.errors(t, false), forecast >= t ? 1 : 0);
                due.is("no MISS" + how, cold.errors(t, true), 0);
            }
        }
    }

    private static void bounds() {
        due.about("35: the fewest of both together; of like ones the lowest");
        due.is("ahead of any", new OwnRain().bound(), 0);
        due.is("of the village", Village.anew().bound(), 4);
        for (int forecast = 0; forecast <= 9; forecast++) {
            OwnRain hot = new OwnRain();
            hot.forecast(forecast, true);
            due.is("hot by " + forecast, hot.bound(), 0);
            OwnRain cold = new OwnRain();
            cold.forecast(forecast, false);
            due.is("cold by " + forecast, cold.bound(), forecast + 1);
            cold.forecast(forecast, true);
            due.is("both by " + forecast, cold.bound(), 0);
            cold.forecast(forecast, false);
            due.is("more are cold by " + forecast, cold.bound(), forecast + 1);
        }
    }

    private static void offers() {
        due.about("36: at a price (0 .. 99); NONE for others");
        village.does("offer(true, _, 5)", 0, 99, -1, (x, v) -> x.offer(true, v, 5), v -> 4);
        village.does("offer(false, _, 5)", 0, 99, -1, (x, v) -> x.offer(false, v, 5), v -> 4);
        due.about("36: drops (1 .. 99; 0: none any more)");
        village.does("offer(true, 5, _)", 0, 99, -1, (x, v) -> x.offer(true, 5, v), v -> v == 0 ? 0 : 4);
        village.does("offer(false, 5, _)", 0, 99, -1, (x, v) -> x.offer(false, 5, v), v -> v == 0 ? 0 : 4);
        village.does("offer(true, _, 100)", 0, 99, -1, (x, v) -> x.offer(true, v, 100), v -> -1);
        village.does("offer(true, 100, _)", 0, 99, -1, (x, v) -> x.offer(true, 100, v), v -> v == 0 ? 0 : -1);
        due.about("36: none any more, whatever price is told with it");
        village.does("offer(false, _, 0)", Integer.MIN_VALUE, Integer.MAX_VALUE, -1, (x, v) -> x.offer(false, v, 0), v -> 0);
        empty.takes("offer(true, 1, _)", 0, 99, -1, (x, v) -> x.offer(true, 1, v), v -> v == 0 ? 0 : 1);
    }

    private static void tenOffers() {
        due.about("36: 10 at most; NONE if there are 10");
        OwnRain x = new OwnRain();
        for (int i = 1; i <= 10; i++) {
            due.is("number " + i, x.offer(i % 2 == 0, 50, 99), i);
            due.is("about(12)", x.about(12), i);
        }
        due.is("an eleventh", x.offer(true, 50, 1), -1);
        due.is("ten", x.about(12), 10);
        due.is("TRADED", x.market(50), 5 * 99);
        full.does("offer(true, 5, _)", 0, 99, -1, (y, v) -> y.offer(true, 5, v), v -> v == 0 ? 0 : -1);
        due.is("none any more", x.offer(true, 50, 0), 0);
        due.is("nothing is TRADED", x.market(50), 0);
        due.is("from one on", x.offer(true, 50, 1), 1);
    }

    private static void market() {
        due.about("37: TRADED at a price (0 .. 99); THE PRICE (NONE); NONE for others");
        // One buys 5 at 10 or less, two sell 3 at 4 or more and 4 at 8 or more.
        village.asks("market(_)", -1, 99, -1, (x, v) -> x.market(v), v -> v == -1 ? 8 : v > 10 || v < 4 ? 0 : v < 8 ? 3 : 5);
        empty.asks("market(_)", -1, 99, -1, (x, v) -> x.market(v), v -> 0);
        due.about("37: a buyer at that or less, a seller at that or more; the lesser");
        for (int price : new int[] {0, 1, 50, 98, 99}) {
            OwnRain x = new OwnRain();
            x.offer(true, price, 7);
            x.offer(false, 0, 99);
            OwnRain y = new OwnRain();
            y.offer(true, 99, 99);
            y.offer(false, price, 8);
            for (int at = Math.max(0, price - 1); at <= Math.min(99, price + 1); at++) {
                due.is("bought by " + price + " at " + at, x.market(at), at <= price ? 7 : 0);
                due.is("sold by " + price + " at " + at, y.market(at), at >= price ? 8 : 0);
            }
        }
        OwnRain one = new OwnRain();
        one.offer(true, 50, 99);
        due.is("buyers alone", one.market(50), 0);
        one.offer(true, 0, 0);
        one.offer(false, 50, 99);
        due.is("sellers alone", one.market(50), 0);
    }

    private static void thePrice() {
        due.about("37: by which most is TRADED; of like ones the lowest");
        for (int low : new int[] {0, 1, 50, 98, 99}) {
            for (int high : new int[] {0, 1, 50, 98, 99}) {
                OwnRain x = new OwnRain();
                x.offer(false, low, 5);
                x.offer(true, high, 6);
                due.is("from " + low + " to " + high, x.market(-1), low <= high ? low : 0);
            }
        }
        OwnRain y = new OwnRain();
        y.offer(false, 10, 5);
        y.offer(true, 99, 9);
        y.offer(false, 90, 1);
        due.is("one more at 90", y.market(-1), 90);
        y.offer(true, 89, 9);
        due.is("still", y.market(-1), 90);
        y.offer(false, 20, 1);
        due.is("two more at 90", y.market(-1), 90);
        y.offer(false, 30, 9);
        due.is("most at 30, at which there are two buyers", y.market(-1), 30);
    }
}
