/** Promises 29 to 37: what is MISSING, how CLOUDS fill, FORECASTS, and the market. */
public final class LedgerTest {
    private static final Due due = new Due();

    public static void main(String[] args) {
        missing();
        near();
        nearAsFarAsIsKept();
        thieves();
        filling();
        fillingOfAll();
        forecasts();
        errors();
        offers();
        market();
        due.close();
    }

    private static OwnRain people(int many) {
        OwnRain x = new OwnRain();
        for (int f = 0; f < 3; f++) {
            x.field(0, 0, 1);
        }
        x.road(0, 1);
        x.road(1, 2);
        x.road(0, 2);
        for (int p = 0; p < many; p++) {
            x.person(99, 1, 0, 0);
        }
        return x;
    }

    private static void missing() {
        due.about("promise 29");
        OwnRain x = people(2);
        due.is("none any more", x.missing(-1, 5, 4), 0);
        int[][] wrong = {{2, 0, 0}, {-2, 0, 0}, {0, -1, 0}, {0, 1, 0}, {0, 0, 1000}, {0, 1000, 1000}};
        for (int[] w : wrong) {
            due.is("missing(" + w[0] + ", " + w[1] + ", " + w[2] + ")", x.missing(w[0], w[1], w[2]), -2);
        }
        due.is("the first", x.missing(0, 0, 999), 1);
        due.is("the second", x.missing(0, 999, 999), 2);
        for (int i = 3; i <= 6; i++) {
            due.is("number " + i, x.missing(1, 0, i), i);
        }
        due.is("a seventh", x.missing(1, 0, 0), -2);
        due.is("six", x.about(10), 6);
        due.is("no step", x.about(9), 0);
        due.is("none", x.missing(-1, 0, 0), 0);
        due.is("one again", x.missing(1, 0, 0), 1);
    }

    private static void near() {
        due.about("promise 30");
        OwnRain x = people(4);
        due.is("without any missing all", x.near(-1), 15);
        due.is("near(0) without", x.near(0), -2);
        x.hour(1);
        x.go(1, 1);
        x.go(2, 2);
        x.hour(1);
        x.go(0, 1);
        x.go(2, 0);
        x.hour(1);
        x.missing(0, 1, 2);
        x.missing(0, 0, 0);
        x.missing(2, 1, 1);
        x.missing(3, 2, 999);
        x.missing(3, 3, 999);
        due.is("in one of the hours", x.near(0), 10);
        due.is("in the first hour", x.near(1), 14);
        due.is("alone", x.near(2), 0);
        due.is("with one", x.near(3), 4);
        due.is("in hours to come", x.near(4), 0);
        due.is("near(5)", x.near(5), -2);
        due.is("near(-2)", x.near(-2), -2);
        due.is("suspects of all", x.near(-1), 0);
        x.missing(-1, 0, 0);
        x.missing(0, 1, 2);
        x.missing(0, 0, 0);
        due.is("suspects of two", x.near(-1), 10);
        due.is("none any more", x.near(2), -2);
        x.missing(1, 0, 0);
        due.is("near another", x.near(2), 13);
        due.is("without people", new OwnRain().near(-1), 0);
    }

    private static void nearAsFarAsIsKept() {
        due.about("promise 30, kept");
        OwnRain x = people(2);
        x.hour(1);
        x.go(1, 1);
        x.missing(0, 0, 50);
        due.is("in hour 0", x.near(0), 2);
        x.hour(19);
        due.is("20 hours are kept", x.near(0), 2);
        x.hour(1);
        due.is("it isn't kept any more", x.near(0), 0);
        x.undo();
        due.is("it is kept again", x.near(0), 2);
        x.person(99, 1, 0, 0);
        due.is("a new one was nowhere", x.near(0), 2);
        x.hour(1);
        due.is("but is now", x.near(0), 4);
        x.undo();
        due.is("taken back it was nowhere", x.near(0), 2);
        x.missing(2, 0, 50);
        due.is("near nobody", x.near(1), 0);
    }

    private static void thieves() {
        due.about("promise 31");
        OwnRain x = people(5);
        due.is("without any missing", x.thieves(), 0);
        // HOUR 0: 0 with 1 2; HOUR 1: 0 with 2 3; HOUR 2: 0 with 3 4.
        x.go(3, 1);
        x.go(4, 1);
        x.hour(1);
        x.go(1, 1);
        x.go(3, 0);
        x.hour(1);
        x.go(2, 1);
        x.go(4, 0);
        x.hour(1);
        x.missing(0, 0, 0);
        due.is("the lowest of like ones", x.thieves(), 2);
        x.missing(0, 1, 1);
        due.is("one for two", x.thieves(), 4);
        x.missing(0, 2, 2);
        due.is("two for three, the lowest set", x.thieves(), 10);
        x.missing(0, 0, 2);
        due.is("one more that they were near for", x.thieves(), 10);
        due.is("suspects", x.near(-1), 0);
        x.missing(0, 500, 600);
        due.is("none", x.thieves(), -1);
        fewestAheadOfLowest();
        due.is("without people", new OwnRain().thieves(), 0);
    }

    private static void fewestAheadOfLowest() {
        // HOUR 0: 0 with 1 3; HOUR 1: 0 with 2 3.
        OwnRain x = people(4);
        x.go(2, 1);
        x.hour(1);
        x.go(1, 1);
        x.go(2, 0);
        x.hour(1);
        x.missing(0, 0, 0);
        x.missing(0, 1, 1);
        due.is("one of a high number ahead of two of low ones", x.thieves(), 8);
    }

    private static void fills(OwnRain x, int[] how, long upper, long lower) {
        String call = "filling(" + how[0] + ", " + how[1] + ", " + how[2] + ", " + how[3] + ", " + how[4];
        due.is(call + ", false)", x.filling(how[0], how[1], how[2], how[3], how[4], false), upper);
        due.is(call + ", true)", x.filling(how[0], how[1], how[2], how[3], how[4], true), lower);
    }

    private static void filling() {
        due.about("promise 32");
        OwnRain x = people(0);
        x.person(20, 1, 0, 5);
        x.person(20, 1, 0, 20);
        x.person(15, 1, 0, 0);
        fills(x, new int[] {0, 5, 9, 9, 0}, 0, 1);
        fills(x, new int[] {1, 5, 9, 9, 0}, 1, 1);
        fills(x, new int[] {0, 10, 15, 0, 1}, 1, 1);
        fills(x, new int[] {0, 0, 15, 0, 1}, 0, 1);
        fills(x, new int[] {0, 0, 0, 15, 1}, 1, 1);
        fills(x, new int[] {0, 4, 15, 14, 1}, 2, 5);
        fills(x, new int[] {0, 3, 15, 0, 2}, 51, 100);
        fills(x, new int[] {0, 7, 5, 0, 3}, 343, 1000);
        fills(x, new int[] {2, 1, 1, 0, 15}, 1, 1000000000000000L);
        fills(x, new int[] {2, 9, 1, 0, 15}, 205891132094649L, 1000000000000000L);
        fills(x, new int[] {2, 5, 1, 0, 15}, 1, 32768);
        fills(x, new int[] {0, 5, 99, 99, 15}, 1, 1);
        fills(x, new int[] {0, 5, 0, 0, 15}, 0, 1);
        int[][] wrong = {{3, 5, 1, 1, 1}, {-1, 5, 1, 1, 1}, {0, -1, 1, 1, 1}, {0, 11, 1, 1, 1}, {0, 5, -1, 1, 1},
            {0, 5, 100, 1, 1}, {0, 5, 1, -1, 1}, {0, 5, 1, 100, 1}, {0, 5, 1, 1, -1}, {0, 5, 1, 1, 16}};
        for (int[] w : wrong) {
            fills(x, w, -1, -1);
        }
    }

    /** By every row of hot and cold HOURS. */
    private static void fillingOfAll() {
        due.about("promise 32, all rows");
        java.util.Random draw = new java.util.Random(32);
        OwnRain x = people(0);
        for (int p = 0; p < 8; p++) {
            x.person(1 + draw.nextInt(99), 1, 0, draw.nextInt(60));
        }
        for (int t = 0; t < 300; t++) {
            int[] how = {draw.nextInt(8), draw.nextInt(11), draw.nextInt(30), draw.nextInt(30), draw.nextInt(11)};
            java.math.BigInteger upper = java.math.BigInteger.ZERO;
            for (int row = 0; row < 1 << how[4]; row++) {
                int hot = Integer.bitCount(row);
                if (x.ofPerson(how[0], 3) + hot * how[2] + (how[4] - hot) * how[3] >= x.ofPerson(how[0], 0)) {
                    upper = upper.add(java.math.BigInteger.valueOf(how[1]).pow(hot)
                            .multiply(java.math.BigInteger.valueOf(10 - how[1]).pow(how[4] - hot)));
                }
            }
            java.math.BigInteger lower = java.math.BigInteger.TEN.pow(how[4]);
            java.math.BigInteger common = upper.gcd(lower);
            fills(x, how, upper.divide(common).longValueExact(), lower.divide(common).longValueExact());
        }
    }

    private static void forecasts() {
        due.about("promise 33");
        OwnRain x = new OwnRain();
        due.is("forecast(10)", x.forecast(10, true), -2);
        due.is("forecast(-2)", x.forecast(-2, true), -2);
        due.is("none", x.forecast(-1, true), 0);
        for (int i = 1; i <= 12; i++) {
            due.is("number " + i, x.forecast(i % 10, i % 2 == 0), i);
        }
        due.is("a thirteenth", x.forecast(1, true), -2);
        due.is("twelve", x.about(11), 12);
        due.is("none any more", x.forecast(-1, false), 0);
        due.is("one again", x.forecast(9, false), 1);
    }

    private static void errors() {
        due.about("promise 34");
        OwnRain x = new OwnRain();
        int[] none = new int[11];
        tellErrors(x, none, none);
        due.is("the best of none", x.bound(), 0);
        int[][] told = {{9, 1}, {9, 0}, {0, 0}, {4, 1}, {4, 0}, {2, 0}, {6, 1}, {0, 1}};
        for (int[] f : told) {
            x.forecast(f[0], f[1] == 1);
        }
        tellErrors(x, new int[] {4, 3, 3, 2, 2, 1, 1, 1, 1, 1, 0}, new int[] {0, 1, 1, 1, 1, 2, 2, 3, 3, 3, 4});
        due.is("errors(11, true)", x.errors(11, true), -1);
        due.is("errors(-1, false)", x.errors(-1, false), -1);
        due.about("promise 35");
        due.is("the best", x.bound(), 3);
        x.forecast(-1, true);
        x.forecast(9, false);
        due.is("none is hot", x.bound(), 10);
        x.forecast(0, true);
        x.forecast(0, true);
        due.is("all are", x.bound(), 0);
        x.forecast(-1, true);
        x.forecast(0, false);
        x.forecast(1, true);
        due.is("by 1", x.bound(), 1);
    }

    private static void tellErrors(OwnRain x, int[] alarms, int[] misses) {
        for (int t = 0; t <= 10; t++) {
            due.is("errors(" + t + ", false)", x.errors(t, false), alarms[t]);
            due.is("errors(" + t + ", true)", x.errors(t, true), misses[t]);
        }
    }

    private static void offers() {
        due.about("promise 36");
        OwnRain x = new OwnRain();
        due.is("none", x.offer(true, 500, 0), 0);
        due.is("price -1", x.offer(true, -1, 5), -1);
        due.is("price 100", x.offer(true, 100, 5), -1);
        due.is("drops -1", x.offer(true, 5, -1), -1);
        due.is("drops 100", x.offer(true, 5, 100), -1);
        due.is("least", x.offer(false, 0, 1), 1);
        due.is("greatest", x.offer(true, 99, 99), 2);
        for (int i = 3; i <= 10; i++) {
            due.is("number " + i, x.offer(false, i, i), i);
        }
        due.is("an eleventh", x.offer(true, 1, 1), -1);
        due.is("ten", x.about(12), 10);
        due.is("none any more", x.offer(false, 0, 0), 0);
        due.is("one again", x.offer(false, 0, 1), 1);
    }

    private static void market() {
        due.about("promise 37");
        OwnRain x = new OwnRain();
        due.is("without offers", x.market(50), 0);
        due.is("the price without", x.market(-1), 0);
        x.offer(true, 60, 10);
        x.offer(true, 50, 20);
        due.is("without sellers", x.market(50), 0);
        x.offer(false, 55, 8);
        x.offer(false, 40, 9);
        x.offer(false, 30, 3);
        due.is("below all sellers", x.market(29), 0);
        due.is("at the lowest's", x.market(30), 3);
        due.is("below the next", x.market(39), 3);
        due.is("at the next", x.market(40), 12);
        due.is("at a buyer's", x.market(50), 12);
        due.is("above it", x.market(51), 10);
        due.is("at the highest's", x.market(60), 10);
        due.is("above all", x.market(61), 0);
        due.is("the price", x.market(-1), 40);
        due.is("market(100)", x.market(100), -1);
        due.is("market(-2)", x.market(-2), -1);
        x.offer(true, 99, 9);
        x.offer(false, 99, 99);
        due.is("most at a higher one", x.market(-1), 55);
        due.is("at 99", x.market(99), 9);
        for (int price = 0; price < 100; price += price < 3 ? 1 : 32) {
            x.offer(true, 0, 0);
            x.offer(true, price, 4);
            x.offer(false, price, 5);
            due.is("traded at " + price, x.market(price), 4);
            due.is("the price " + price, x.market(-1), price);
        }
    }
}
