/** Promises 22 to 28 and 38: what would be, by the side of what is. */
public final class ForetellTest {
    private static final Due due = new Due();
    private static final String LAWS = "sweat work+count cloud>3 end;rain cloud/2+hour/7;tax old*5;dries heat*count full>0 end+wet/9;";

    public static void main(String[] args) {
        foretold();
        foretoldBounds();
        plans();
        plansAsTheyAreTried();
        matches();
        matchesOfAll();
        shares();
        crossings();
        crossingsOfAll();
        widest();
        greatestTax();
        due.close();
    }

    /** A village that differs by its number. */
    private static OwnRain village(int number) {
        java.util.Random draw = new java.util.Random(number);
        OwnRain x = Due.played(number % 3 == 0 ? "" : LAWS);
        int fields = 1 + draw.nextInt(6);
        for (int f = 0; f < fields; f++) {
            int needs = draw.nextInt(30);
            x.field(draw.nextInt(10), needs, needs + 1 + draw.nextInt(60));
        }
        for (int r = 0; r < 9; r++) {
            x.road(draw.nextInt(fields), draw.nextInt(fields));
        }
        int people = 1 + draw.nextInt(8);
        for (int p = 0; p < people; p++) {
            x.person(1 + draw.nextInt(40), draw.nextInt(100), draw.nextInt(fields), draw.nextInt(60));
            x.work(p, draw.nextInt(10));
        }
        x.year(draw.nextInt(10000), 1 + draw.nextInt(30));
        return x;
    }

    private static void foretold() {
        for (int v = 0; v < 40; v++) {
            OwnRain x = village(v);
            int n = 1 + v % 30;
            int fields = x.about(0);
            int people = x.about(1);
            int[] wet = new int[fields];
            int[] cloud = new int[people];
            int[] first = new int[people];
            String before = Seen.of(x);
            for (int f = 0; f < fields; f++) {
                wet[f] = x.foretoldWet(n, f);
            }
            for (int p = 0; p < people; p++) {
                cloud[p] = x.foretoldCloud(n, p, false);
                first[p] = x.foretoldCloud(n, p, true);
            }
            due.about("promise 22, village " + v);
            due.is("nothing is changed", Seen.of(x).equals(before), true);
            int[] rains = new int[people];
            for (int h = 1; h <= n; h++) {
                int hour = x.about(2);
                x.hour(1);
                for (int i = 0; i < x.rained(-1, 0); i++) {
                    int p = x.rained(i, 0);
                    rains[p] = x.rained(i, 1) == hour && rains[p] == 0 ? h : rains[p];
                }
            }
            for (int f = 0; f < fields; f++) {
                due.is("wet of " + f, wet[f], x.ofField(f, 3));
            }
            due.about("promise 23, village " + v);
            for (int p = 0; p < people; p++) {
                due.is("cloud of " + p, cloud[p], x.ofPerson(p, 3));
                due.is("first rain of " + p, first[p], rains[p] == 0 ? -1 : rains[p]);
            }
        }
    }

    private static void foretoldBounds() {
        OwnRain x = new OwnRain();
        x.field(1, 0, 999);
        x.person(20, 1, 0, 0);
        x.work(0, 1);
        due.about("promise 22");
        due.is("foretoldWet(0, 0)", x.foretoldWet(0, 0), -1);
        due.is("foretoldWet(31, 0)", x.foretoldWet(31, 0), -1);
        due.is("foretoldWet(1, 1)", x.foretoldWet(1, 1), -1);
        due.is("foretoldWet(1, -1)", x.foretoldWet(1, -1), -1);
        due.is("foretoldWet(20, 0)", x.foretoldWet(20, 0), 19);
        due.about("promise 23");
        due.is("foretoldCloud(0, 0)", x.foretoldCloud(0, 0, false), -1);
        due.is("foretoldCloud(31, 0)", x.foretoldCloud(31, 0, true), -1);
        due.is("foretoldCloud(1, 1)", x.foretoldCloud(1, 1, false), -1);
        due.is("foretoldCloud(1, -1)", x.foretoldCloud(1, -1, true), -1);
        due.is("not in 19", x.foretoldCloud(19, 0, true), -1);
        due.is("in 20", x.foretoldCloud(20, 0, true), 20);
        for (int i = 0; i < 33; i++) {
            x.hour(30);
        }
        x.hour(9);
        int cloud = x.ofPerson(0, 3);
        due.is("beyond 999", x.foretoldCloud(30, 0, false), (cloud + 30) % 20);
        Due.read(x, "sweat hour/100;");
        x.by(0);
        // It sweats 9 in HOUR 999, by which it rains all, and 10 in HOUR 1000.
        due.is("the hour goes on", x.foretoldCloud(2, 0, false), 10);
    }

    private static void plans() {
        due.about("promise 24");
        OwnRain x = new OwnRain();
        x.field(2, 10, 12);
        x.person(10, 1, 0, 3);
        x.work(0, 9);
        due.is("two hours are too few", x.plan(0, 2, -1), -1);
        due.is("none has no work", x.plan(0, 2, 0), -1);
        due.is("three are enough", x.plan(0, 3, -1), 7);
        int[] three = {1, 3, 3};
        for (int i = 0; i < 3; i++) {
            due.is("its work " + i, x.plan(0, 3, i), three[i]);
        }
        int[] five = {0, 0, 1, 3, 3};
        due.is("of five", x.plan(0, 5, -1), 7);
        for (int i = 0; i < 5; i++) {
            due.is("the least first " + i, x.plan(0, 5, i), five[i]);
        }
        due.is("plan(0, 3, 3)", x.plan(0, 3, 3), -1);
        due.is("plan(0, 3, -2)", x.plan(0, 3, -2), -1);
        due.is("plan(0, 0, -1)", x.plan(0, 0, -1), -1);
        due.is("plan(0, 6, -1)", x.plan(0, 6, -1), -1);
        due.is("plan(1, 3, -1)", x.plan(1, 3, -1), -1);
        due.is("plan(-1, 3, -1)", x.plan(-1, 3, -1), -1);
        due.is("it works on", x.ofPerson(0, 4), 9);
        OwnRain wet = new OwnRain();
        wet.field(0, 0, 5);
        wet.person(9, 1, 0, 8);
        due.is("wet by 0", wet.plan(0, 5, -1), 0);
        wet.person(5, 1, 0, 5);
        due.is("drowned by another", wet.plan(0, 1, -1), -1);
    }

    private static void plansAsTheyAreTried() {
        for (int v = 0; v < 60; v++) {
            OwnRain x = village(v);
            due.about("promise 24, village " + v);
            int n = 1 + v % 4;
            int person = v % x.about(1);
            int field = x.ofPerson(person, 2);
            x.image();
            int least = -1;
            int best = 0;
            for (int tried = 0; tried < 1 << 2 * n; tried++) {
                int sweat = sweatBy(x, person, field, n, tried);
                x.back();
                if (sweat != -1 && (least == -1 || sweat < least)) {
                    least = sweat;
                    best = tried;
                }
            }
            String before = Seen.of(x);
            due.is("the least", x.plan(person, n, -1), least);
            for (int i = 0; i < n; i++) {
                due.is("work " + i, x.plan(person, n, i), least == -1 ? -1 : best >> 2 * (n - 1 - i) & 3);
            }
            due.is("nothing is changed", Seen.of(x).equals(before), true);
        }
    }

    /** What a PERSON sweats by a row of WORKS (two bits each), -1 if its FIELD drowns or is never wet. */
    private static int sweatBy(OwnRain x, int person, int field, int n, int works) {
        int sweat = 0;
        boolean wet = false;
        for (int i = 0; i < n; i++) {
            x.work(person, works >> 2 * (n - 1 - i) & 3);
            int cloud = x.ofPerson(person, 3);
            int flooded = x.ofField(field, 5);
            int grown = x.ofField(field, 4);
            int hour = x.about(2);
            x.hour(1);
            sweat += x.ofPerson(person, 3) - cloud;
            for (int r = 0; r < x.rained(-1, 0); r++) {
                sweat += x.rained(r, 1) == hour && x.rained(r, 0) == person ? x.rained(r, 3) : 0;
            }
            wet |= x.ofField(field, 4) > grown;
            if (x.ofField(field, 5) > flooded) {
                return -1;
            }
        }
        return wet ? sweat : -1;
    }

    private static void matches() {
        due.about("promise 25");
        OwnRain x = Due.played("sweat work*heat+who*here-count who>0 end;field 2 needs 0 drowns 9;field 5 needs 0 drowns 9;field 3 needs 0 drowns 9;");
        x.person(9, 1, 0, 0);
        x.person(9, 1, 0, 0);
        x.person(9, 1, 0, 990);
        due.is("one on one", x.match(1, 1, -1), 18);
        due.is("with what its cloud takes", x.match(4, 2, -1), 9);
        due.is("of all", x.match(7, 7, -1), 45 + 28 + 9);
        due.is("the lowest field for the lowest", x.match(7, 7, 0), 1);
        due.is("then the next", x.match(7, 7, 1), 2);
        due.is("then the last", x.match(7, 7, 2), 0);
        int[][] wrong = {{0, 0, -1}, {1, 3, -1}, {3, 1, -1}, {8, 1, -1}, {1, 8, -1}, {-1, 7, -1}, {7, -1, -1},
            {1, 1, 1}, {1, 1, -2}, {1, 1, 32}, {3, 3, 2}, {Integer.MIN_VALUE, 1, -1}, {1, 0, -1}};
        for (int[] w : wrong) {
            due.is("match(" + w[0] + ", " + w[1] + ", " + w[2] + ")", x.match(w[0], w[1], w[2]), -1);
        }
        OwnRain many = new OwnRain();
        for (int f = 0; f < 6; f++) {
            many.field(0, 0, 1);
        }
        for (int p = 0; p < 8; p++) {
            many.person(9, 9, 0, 0);
        }
        due.is("six", many.match(0xfc, 0x3f, -1), 54);
        due.is("the lowest", many.match(0xfc, 0x3f, 2), 0);
        due.is("the highest", many.match(0xfc, 0x3f, 7), 5);
        due.is("seven can't be", many.match(0xfe, 0x3f, -1), -1);
    }

    private static void matchesOfAll() {
        for (int v = 0; v < 60; v++) {
            OwnRain x = village(v);
            Due.read(x, "sweat (work+here*7+who*3)*(age+5*hour)/(heat+1)-(age/(here+1))/(wet+3)*sum who end;");
            x.by(1);
            int fields = x.about(0);
            int people = x.about(1);
            java.util.Random draw = new java.util.Random(v);
            int set = 1 + draw.nextInt((1 << people) - 1);
            int places = 1 + draw.nextInt((1 << fields) - 1);
            int[] best = new int[9];
            best[8] = -1;
            if (Integer.bitCount(set) == Integer.bitCount(places)) {
                tryPlaces(x, set, places, 0, 0, new int[9], best);
            }
            due.about("promise 25, village " + v);
            String before = Seen.of(x);
            due.is("how much", x.match(set, places, -1), best[8]);
            for (int p = 0; p < 8; p++) {
                due.is("place of " + p, x.match(set, places, p), best[8] >= 0 && (set >> p & 1) == 1 ? best[p] : -1);
            }
            due.is("nothing is changed", Seen.of(x).equals(before), true);
        }
    }

    private static void tryPlaces(OwnRain x, int set, int places, int person, int sweat, int[] tried, int[] best) {
        if (person == 8) {
            if (sweat > best[8]) {
                System.arraycopy(tried, 0, best, 0, 8);
                best[8] = sweat;
            }
            return;
        }
        if ((set >> person & 1) == 0) {
            tryPlaces(x, set, places, person + 1, sweat, tried, best);
            return;
        }
        for (int f = 0; f < 6; f++) {
            if ((places >> f & 1) == 1) {
                tried[person] = f;
                long law = (9 + f * 7 + person * 3) * (x.ofPerson(person, 1) + 5L * x.about(2)) / (x.ofField(f, 0) + 1)
                        - x.ofPerson(person, 1) / (f + 1) / (x.ofField(f, 3) + 3) * person;
                int its = (int) Math.min(Math.max(0, Math.min(99, law)), 999 - x.ofPerson(person, 3));
                tryPlaces(x, set, places & ~(1 << f), person + 1, sweat + its, tried, best);
            }
        }
    }

    private static void shares() {
        due.about("promise 26");
        OwnRain x = new OwnRain();
        x.field(0, 0, 1);
        int[] clouds = {10, 10, 10, 0, 70, 999, 1};
        for (int c : clouds) {
            x.person(9, 9, 0, c);
        }
        int[] ten = {4, 3, 3};
        for (int p = 0; p < 3; p++) {
            due.is("ten by three to " + p, x.shares(7, 10, p), ten[p]);
        }
        due.is("eleven by three to 1", x.shares(7, 11, 1), 4);
        due.is("eleven by three to 2", x.shares(7, 11, 2), 3);
        due.is("to one who has nothing", x.shares(15, 11, 3), 0);
        due.is("all to one", x.shares(16, 999, 4), 999);
        due.is("without any cloud", x.shares(8, 5, 3), -1);
        due.is("nothing to share", x.shares(7, 0, 0), 0);
        due.is("by one drop", x.shares(64, 8, 6), 8);
        due.is("the most left over", x.shares(0x31, 10, 5), 9);
        due.is("next to that", x.shares(0x31, 10, 4), 1);
        due.is("least left over", x.shares(0x31, 10, 0), 0);
        int all = 0;
        for (int p = 0; p < 7; p++) {
            all += x.shares(0x7f, 999, p);
        }
        due.is("together", all, 999);
        due.is("amount -1", x.shares(7, -1, 0), -1);
        due.is("amount 1000", x.shares(7, 1000, 0), -1);
        due.is("not of the set", x.shares(7, 10, 3), -1);
        due.is("person -1", x.shares(7, 10, -1), -1);
        due.is("person 33", x.shares(7, 10, 33), -1);
        due.is("no such set", x.shares(0x87, 10, 0), -1);
        due.is("no set", x.shares(0, 10, 0), -1);
        due.is("a negative set", x.shares(-1, 10, 0), -1);
    }

    /** FIELDS wet by 5 0 7 7 9 3, and ROADS 0-1 0-2 0-3 1-5 2-4 3-4 4-5. */
    private static OwnRain desert() {
        OwnRain x = new OwnRain();
        int[] wet = {5, 0, 7, 7, 9, 3};
        for (int f = 0; f < 6; f++) {
            x.field(0, 0, 999);
        }
        for (int f = 0; f < 6; f++) {
            x.person(1, 1, f, wet[f]);
        }
        x.hour(1);
        int[][] roads = {{0, 1}, {0, 2}, {0, 3}, {1, 5}, {2, 4}, {3, 4}, {4, 5}};
        for (int[] road : roads) {
            x.road(road[0], road[1]);
        }
        return x;
    }

    private static void crossings() {
        due.about("promise 27");
        OwnRain x = desert();
        due.is("two roads", x.cross(0, 5, 0, -1), 2);
        due.is("by 1", x.cross(0, 5, 0, 0), 1);
        due.is("to 5", x.cross(0, 5, 0, 1), 5);
        due.is("three roads", x.cross(0, 5, 1, -1), 3);
        due.is("by the lowest", x.cross(0, 5, 1, 0), 2);
        due.is("then 4", x.cross(0, 5, 1, 1), 4);
        due.is("then 5", x.cross(0, 5, 1, 2), 5);
        due.is("no fourth", x.cross(0, 5, 1, 3), -1);
        due.is("cross(0, 5, 1, -2)", x.cross(0, 5, 1, -2), -1);
        due.is("that one, too", x.cross(0, 5, 4, -1), -1);
        due.is("none has no way", x.cross(0, 5, 4, 0), -1);
        due.is("where one begins doesn't matter", x.cross(1, 0, 5, -1), 1);
        due.is("one is there", x.cross(1, 1, 999, -1), 0);
        due.is("and comes to none", x.cross(1, 1, 999, 0), -1);
        due.is("thirst -1", x.cross(0, 5, -1, -1), -1);
        due.is("thirst 1000", x.cross(0, 0, 1000, -1), -1);
        due.is("from none", x.cross(6, 0, 0, -1), -1);
        due.is("to none", x.cross(0, -1, 0, -1), -1);
        OwnRain y = new OwnRain();
        y.field(0, 0, 1);
        y.field(0, 0, 1);
        due.is("without a road", y.cross(0, 1, 0, -1), -1);
    }

    private static void crossingsOfAll() {
        for (int v = 0; v < 60; v++) {
            OwnRain x = village(v);
            int fields = x.about(0);
            due.about("promise 27, village " + v);
            for (int from = 0; from < fields; from++) {
                for (int to = 0; to < fields; to++) {
                    int widest = -1;
                    for (int thirst = 0; thirst < 1000; thirst += thirst < 60 ? 1 : 313) {
                        String way = bestWay(x, from, to, thirst, "");
                        due.is("cross " + from + " " + to + " " + thirst, x.cross(from, to, thirst, -1), way == null ? -1 : way.length());
                        for (int i = 0; way != null && i < way.length(); i++) {
                            due.is("way " + from + " " + to + " " + thirst, x.cross(from, to, thirst, i), way.charAt(i) - '0');
                        }
                        widest = way != null ? thirst : widest;
                    }
                    if (widest < 59) {
                        due.is("widest " + from + " " + to, x.widest(from, to), widest);
                    }
                }
            }
        }
    }

    /** Every way without a FIELD twice: the shortest, of like ones the one that is first by its FIELDS. */
    private static String bestWay(OwnRain x, int at, int to, int thirst, String gone) {
        if (at == to) {
            return gone;
        }
        String best = null;
        for (int f = 0; f < 6; f++) {
            boolean can = (x.ofField(at, 7) >> f & 1) == 1 && x.ofField(f, 3) >= thirst && gone.indexOf('0' + f) < 0;
            String way = can ? bestWay(x, f, to, thirst, gone + f) : null;
            best = way != null && (best == null || way.length() < best.length()) ? way : best;
        }
        return best;
    }

    private static void widest() {
        due.about("promise 28");
        OwnRain x = desert();
        due.is("widest(0, 5)", x.widest(0, 5), 3);
        due.is("widest(0, 4)", x.widest(0, 4), 7);
        due.is("widest(5, 0)", x.widest(5, 0), 5);
        due.is("widest(0, 1)", x.widest(0, 1), 0);
        due.is("widest(1, 1)", x.widest(1, 1), 999);
        due.is("widest(6, 0)", x.widest(6, 0), -1);
        due.is("widest(0, -1)", x.widest(0, -1), -1);
        OwnRain y = new OwnRain();
        y.field(0, 0, 1);
        y.field(0, 0, 1);
        y.person(1, 1, 1, 999);
        y.person(1, 1, 1, 999);
        y.hour(1);
        due.is("without a road", y.widest(0, 1), -1);
        y.road(1, 0);
        due.is("999 at most", y.widest(0, 1), 999);
    }

    private static void greatestTax() {
        due.about("promise 38");
        OwnRain x = new OwnRain();
        due.is("without fields", x.greatestTax(1), 10);
        x.field(0, 10, 999);
        x.person(40, 1, 0, 40);
        due.is("greatestTax(0)", x.greatestTax(0), -1);
        due.is("greatestTax(31)", x.greatestTax(31), -1);
        due.is("10 of 40", x.greatestTax(30), 7);
        Due.read(x, "tax 9;");
        x.by(0);
        due.is("whatever the tax is", x.greatestTax(30), 7);
        due.is("the tax is as it was", x.foretoldWet(1, 0), 4);
        due.is("nothing grows", x.foretoldWet(30, 0) < 10, true);
        OwnRain drowned = new OwnRain();
        drowned.field(0, 10, 31);
        drowned.person(40, 1, 0, 40);
        due.is("more grows with a tax", drowned.greatestTax(1), 10);
        OwnRain hole = new OwnRain();
        hole.field(0, 10, 99);
        hole.field(9, 0, 1);
        hole.person(40, 1, 0, 40);
        hole.person(1, 1, 1, 1);
        due.is("one for all fields", hole.greatestTax(3), 7);
        for (int v = 0; v < 40; v++) {
            taxOf(v);
        }
    }

    private static void taxOf(int v) {
        OwnRain x = village(v);
        int n = 1 + v % 30;
        due.about("promise 38, village " + v);
        String before = Seen.of(x);
        int said = x.greatestTax(n);
        due.is("nothing is changed", Seen.of(x).equals(before), true);
        String others = v % 3 == 0 ? "" : LAWS.replace("tax old*5;", "");
        int[][] grown = new int[11][6];
        x.image();
        for (int tax = 0; tax <= 10; tax++) {
            Due.read(x, others + "tax " + tax + ";");
            x.by(1);
            x.hour(n);
            for (int f = 0; f < x.about(0); f++) {
                grown[tax][f] = x.ofField(f, 4);
            }
            x.back();
        }
        int greatest = 0;
        for (int tax = 1; tax <= 10; tax++) {
            boolean harmless = true;
            for (int f = 0; f < 6; f++) {
                harmless &= grown[tax][f] >= grown[0][f];
            }
            greatest = harmless ? tax : greatest;
        }
        due.is("the greatest", said, greatest);
    }
}
