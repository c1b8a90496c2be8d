/** Promises 22 to 28 and 38 at their bounds: what would be, who should work where, shares, ways, taxes. */
public final class EdgesForetoldTest {
    private static final Due due = new Due();
    private static final Edges village = new Edges(due, Village::anew);
    private static final Edges full = new Edges(due, Village::full);
    private static final Edges empty = new Edges(due, OwnRain::new);

    public static void main(String[] args) {
        foretoldWet();
        foretoldCloud();
        firstRain();
        beyond999();
        planBounds();
        planOfLittle();
        planWetAndDrowned();
        planSweatsLeast();
        matchBounds();
        matchSets();
        matchAlone();
        matchLikeOnes();
        shareBounds();
        shareLeftOver();
        crossBounds();
        crossThirst();
        crossFar();
        widest();
        taxBounds();
        taxes();
        due.close();
    }

    private static long wetBehind(OwnRain x, int n, int field) {
        for (int i = 0; i < n; i++) {
            x.hour(1);
        }
        return x.ofField(field, 3);
    }

    private static void foretoldWet() {
        due.about("22: behind n HOURS (1 .. 30)");
        village.asks("foretoldWet(_, 0)", 1, 30, -1, (x, v) -> x.foretoldWet(v, 0), v -> wetBehind(Village.anew(), v, 0));
        due.about("22: of a FIELD; NONE for others");
        village.asks("foretoldWet(1, _)", 0, 3, -1, (x, v) -> x.foretoldWet(1, v), v -> wetBehind(Village.anew(), 1, v));
        village.asks("foretoldWet(0, _)", 0, 3, -1, (x, v) -> x.foretoldWet(0, v), v -> -1);
        village.asks("foretoldWet(31, _)", 0, 3, -1, (x, v) -> x.foretoldWet(31, v), v -> -1);
        empty.asks("foretoldWet(1, _)", 0, 5, -1, (x, v) -> x.foretoldWet(1, v), v -> -1);
    }

    private static long cloudBehind(OwnRain x, int n, int person) {
        for (int i = 0; i < n; i++) {
            x.hour(1);
        }
        return x.ofPerson(person, 3);
    }

    private static void foretoldCloud() {
        due.about("23: behind n HOURS (1 .. 30)");
        village.asks("foretoldCloud(_, 0, false)", 1, 30, -1, (x, v) -> x.foretoldCloud(v, 0, false), v -> cloudBehind(Village.anew(), v, 0));
        due.about("23: of a PERSON; NONE for others");
        village.asks("foretoldCloud(1, _, false)", 0, 3, -1, (x, v) -> x.foretoldCloud(1, v, false), v -> cloudBehind(Village.anew(), 1, v));
        village.asks("foretoldCloud(31, _, false)", 0, 3, -1, (x, v) -> x.foretoldCloud(31, v, false), v -> -1);
        village.asks("foretoldCloud(0, _, true)", 0, 3, -1, (x, v) -> x.foretoldCloud(0, v, true), v -> -1);
        empty.asks("foretoldCloud(1, _, false)", 0, 7, -1, (x, v) -> x.foretoldCloud(1, v, false), v -> -1);
        empty.asks("foretoldCloud(1, _, true)", 0, 7, -1, (x, v) -> x.foretoldCloud(1, v, true), v -> -1);
    }

    private static void firstRain() {
        due.about("23: in how many HOURS it first RAINS (1: in the next one; none)");
        // By WORK 6 and FULL 20 the first is full in the fourth HOUR; the last has been full since it was told.
        village.asks("foretoldCloud(_, 0, true)", 1, 30, -1, (x, v) -> x.foretoldCloud(v, 0, true), v -> v < 4 ? -1 : 4);
        village.asks("foretoldCloud(_, 3, true)", 1, 30, -1, (x, v) -> x.foretoldCloud(v, 3, true), v -> 1);
        village.asks("foretoldCloud(_, 2, true)", 1, 30, -1, (x, v) -> x.foretoldCloud(v, 2, true), v -> -1);
        for (int in : new int[] {1, 2, 29, 30, 31}) {
            OwnRain x = new OwnRain();
            x.field(0, 0, 1);
            x.person(in, 1, 0, 0);
            x.work(0, 1);
            due.is("in 30 by FULL " + in, x.foretoldCloud(30, 0, true), in <= 30 ? in : -1);
        }
        due.about("23: rain of 0 is rain");
        OwnRain dry = Due.played("rain 0;field 0 needs 0 drowns 1;");
        dry.person(5, 1, 0, 5);
        due.is("in the next one", dry.foretoldCloud(1, 0, true), 1);
        due.is("CLOUD stays", dry.foretoldCloud(30, 0, false), 5);
    }

    private static void beyond999() {
        due.about("22, 23: 999 doesn't bound it");
        OwnRain x = Due.played("sweat hour-990;dries 0;field 0 needs 0 drowns 1;one 99 age 1 on 0;");
        Village.atHour(x, 999);
        int cloud = x.ofPerson(0, 3);
        due.is("CLOUD at 999", cloud, 1 + 2 + 3 + 4 + 5 + 6 + 7 + 8);
        due.is("CLOUD behind one", x.foretoldCloud(1, 0, false), cloud + 9);
        due.is("CLOUD behind four", x.foretoldCloud(4, 0, false), cloud + 9 + 10 + 11 + 12);
        due.is("it RAINS in the sixth", x.foretoldCloud(30, 0, true), 6);
        due.is("WET behind five", x.foretoldWet(5, 0), 0);
        due.is("WET behind six", x.foretoldWet(6, 0), cloud + 9 + 10 + 11 + 12 + 13 + 14);
        due.is("HOUR stays", x.about(2), 999);
        full.asks("foretoldWet(_, 5) at 999", 1, 30, -1, (y, v) -> Math.min(0, y.foretoldWet(v, 5)), v -> 0);
    }

    private static OwnRain farm(int needs, int drowns, int full, int cloud) {
        OwnRain x = new OwnRain();
        x.field(0, needs, drowns);
        x.person(full, 1, 0, cloud);
        return x;
    }

    private static void planBounds() {
        due.about("24: for n HOURS (1 to 5)");
        Edges farm = new Edges(due, () -> farm(6, 7, 6, 0));
        // Three a HOUR are six in two HOURS.
        farm.asks("plan(0, _, -1)", 1, 5, -1, (x, v) -> x.plan(0, v, -1), v -> v < 2 ? -1 : 6);
        due.about("24: of a PERSON; NONE for others");
        farm.asks("plan(_, 2, -1)", 0, 0, -1, (x, v) -> x.plan(v, 2, -1), v -> 6);
        empty.asks("plan(_, 2, -1)", 0, 7, -1, (x, v) -> x.plan(v, 2, -1), v -> -1);
        // On FIELD 0, which is WET by 12, the one with 998 rains at once.
        village.asks("plan(_, 1, -1)", 0, 3, -1, (x, v) -> x.plan(v, 1, -1), v -> v == 2 ? 0 : -1);
        due.about("24: its WORK in the i-th HOUR; NONE: there is none such");
        int[] five = {0, 0, 0, 3, 3};
        farm.asks("plan(0, 5, _)", -1, 4, -1, (x, v) -> x.plan(0, 5, v), v -> v == -1 ? 6 : five[v]);
        int[] three = {0, 3, 3};
        farm.asks("plan(0, 3, _)", -1, 2, -1, (x, v) -> x.plan(0, 3, v), v -> v == -1 ? 6 : three[v]);
        due.about("24: NONE: none");
        farm.asks("plan(0, 1, _)", -1, 0, -1, (x, v) -> x.plan(0, 1, v), v -> -1);
        farm.asks("plan(0, 0, _)", -1, 0, -1, (x, v) -> x.plan(0, 0, v), v -> -1);
        farm.asks("plan(0, 6, _)", -1, 5, -1, (x, v) -> x.plan(0, 6, v), v -> -1);
    }

    private static void planOfLittle() {
        due.about("24: its WORK 0 .. 3");
        due.is("three are enough for three", farm(3, 4, 3, 0).plan(0, 1, -1), 3);
        due.is("not for four", farm(4, 5, 4, 0).plan(0, 1, -1), -1);
        due.is("fifteen in five", farm(15, 16, 15, 0).plan(0, 5, -1), 15);
        due.is("not sixteen", farm(16, 17, 16, 0).plan(0, 5, -1), -1);
        due.is("whatever its WORK is", worksNine().plan(0, 1, -1), -1);
        due.about("24: NEEDS 0 is there at once, with no WORK");
        for (int i = 0; i < 5; i++) {
            due.is("WORK " + i, farm(0, 1, 99, 0).plan(0, 5, i), 0);
        }
        due.is("sweats nothing", farm(0, 1, 99, 0).plan(0, 5, -1), 0);
    }

    private static OwnRain worksNine() {
        OwnRain x = farm(9, 10, 9, 0);
        x.work(0, 9);
        return x;
    }

    private static void planWetAndDrowned() {
        due.about("24: WET by NEEDS or more at some HOUR's end ahead of drying, and never by DROWNS (of these)");
        for (int cloud = 8; cloud <= 12; cloud++) {
            // It rains in the first HOUR, as it is FULL, by CLOUD and WORK.
            OwnRain x = farm(10, 12, 8, cloud);
            due.is("CLOUD " + cloud, x.plan(0, 1, -1), cloud >= 12 ? -1 : Math.max(0, 10 - cloud));
        }
        OwnRain dries = Due.played("dries 999;field 0 needs 10 drowns 12;");
        dries.person(10, 1, 0, 7);
        due.is("ahead of drying", dries.plan(0, 1, -1), 3);
        due.is("and later than one", dries.plan(0, 5, -1), 3);
        OwnRain once = new OwnRain();
        once.field(9, 10, 20);
        once.person(10, 1, 0, 10);
        due.is("at some HOUR's end", once.plan(0, 5, -1), 0);
        OwnRain later = new OwnRain();
        later.field(0, 1, 20);
        later.person(99, 1, 0, 0);
        later.person(20, 1, 0, 16);
        later.work(1, 1);
        due.is("another drowns it in the fourth", later.plan(0, 4, -1), -1);
        due.is("three are too early", later.plan(0, 3, -1), -1);
        OwnRain flooded = new OwnRain();
        flooded.field(9, 10, 20);
        flooded.person(1, 1, 0, 28);
        flooded.hour(1);
        due.is("FLOODED ahead of these doesn't matter", flooded.plan(0, 1, -1), 0);
        due.is("WET then", flooded.ofField(0, 3), 19);
        OwnRain stays = new OwnRain();
        stays.field(8, 10, 20);
        stays.person(1, 1, 0, 28);
        stays.hour(1);
        due.is("DROWNS from the start", stays.plan(0, 5, -1), -1);
    }

    private static void planSweatsLeast() {
        due.about("24: the least it sweats, no more than its CLOUD takes");
        OwnRain x = Due.played("rain 1;field 0 needs 1 drowns 999;");
        x.person(1, 1, 0, 999);
        due.is("what it can't sweat costs nothing", x.plan(0, 1, -1), 0);
        due.is("of like ones the least WORK", x.plan(0, 1, 0), 0);
        due.about("24: by law of sweat");
        OwnRain y = Due.played("sweat (3-work)*2;field 0 needs 6 drowns 999;one 6 age 1 on 0;");
        due.is("the least sweat", y.plan(0, 2, -1), 6);
        due.is("the least WORK in the first HOUR", y.plan(0, 2, 0), 0);
        due.is("then the most", y.plan(0, 2, 1), 3);
        OwnRain z = Due.played("sweat 4;field 0 needs 8 drowns 999;one 8 age 1 on 0;");
        due.is("of all alike", z.plan(0, 2, -1), 8);
        due.is("the least in the first", z.plan(0, 2, 0), 0);
        due.is("and the second", z.plan(0, 2, 1), 0);
        due.about("24: at HOUR 999");
        OwnRain late = farm(3, 4, 3, 0);
        Village.atHour(late, 999);
        due.is("the HOURS to come are planned all the same", late.plan(0, 1, -1), 3);
    }

    private static void matchBounds() {
        due.about("25: sets of PEOPLE and of FIELDS that are told; NONE for others");
        village.asks("match(_, 1, -1)", 1, 15, -1, (x, v) -> x.match(v, 1, -1), v -> Integer.bitCount(v) != 1 ? -1 : v == 8 ? 1 : 9);
        village.asks("match(1, _, -1)", 1, 15, -1, (x, v) -> x.match(1, v, -1), v -> Integer.bitCount(v) == 1 ? 9 : -1);
        village.asks("match(0, _, -1)", 0, 15, -1, (x, v) -> x.match(0, v, -1), v -> -1);
        village.asks("match(_, 3, -1)", 1, 15, -1, (x, v) -> x.match(v, 3, -1), v -> Integer.bitCount(v) != 2 ? -1 : v >= 8 ? 10 : 18);
        empty.asks("match(_, 1, -1)", 0, 63, -1, (x, v) -> x.match(v, 1, -1), v -> -1);
        empty.asks("match(0, _, -1)", 0, 63, -1, (x, v) -> x.match(0, v, -1), v -> -1);
        due.about("25: how much (person NONE), the FIELD of a PERSON; NONE for others");
        village.asks("match(5, 10, _)", -1, 3, -1, (x, v) -> x.match(5, 10, v), v -> v == -1 ? 18 : v == 0 ? 1 : v == 2 ? 3 : -1);
        village.asks("match(5, 2, _)", -1, 3, -1, (x, v) -> x.match(5, 2, v), v -> -1);
    }

    private static void matchSets() {
        due.about("25: 1 to 6 of them, as many FIELDS");
        for (int people = 0; people < 256; people++) {
            for (int fields : new int[] {0, 1, 32, 3, 7, 0x33, 0x3e, 0x3f, 0x40, 0x7f, 0xff}) {
                int many = Integer.bitCount(people);
                boolean can = many >= 1 && many == Integer.bitCount(fields) && fields < 64;
                OwnRain x = sixByEight();
                due.is("match(" + people + ", " + fields + ", -1)", x.match(people, fields, -1), can ? many * 9 : -1);
                lowestPlaces(x, people, fields, can);
            }
        }
        OwnRain x = sixByEight();
        for (int bit = 8; bit < 32; bit++) {
            due.is("no PERSON " + bit, x.match(1 | 1 << bit, 3, -1), -1);
            due.is("no PERSON " + bit + " alone", x.match(1 << bit, 1, -1), -1);
            due.is("no FIELD " + (bit - 2), x.match(3, 1 | 1 << bit - 2, -1), -1);
        }
    }

    private static OwnRain sixByEight() {
        OwnRain x = new OwnRain();
        for (int f = 0; f < 6; f++) {
            x.field(0, 0, 1);
        }
        for (int p = 0; p < 8; p++) {
            x.person(9, 9, 0, 0);
        }
        return x;
    }

    /** Where all are alike each has the lowest that is left. */
    private static void lowestPlaces(OwnRain x, int people, int fields, boolean can) {
        int left = fields;
        for (int p = 0; p < 8; p++) {
            int want = -1;
            if (can && (people >> p & 1) == 1) {
                want = Integer.numberOfTrailingZeros(left);
                left &= left - 1;
            }
            due.is("match(" + people + ", " + fields + ", " + p + ")", x.match(people, fields, p), want);
        }
    }

    private static void matchAlone() {
        due.about("25: each as if it stood there with WORK 9, others gone");
        OwnRain x = Due.played("sweat work+heat*10-sum 3 end-count who=0 end*5;field 1 needs 0 drowns 9;field 4 needs 0 drowns 9;");
        x.person(9, 1, 0, 0);
        x.person(9, 1, 0, 0);
        x.person(9, 1, 1, 0);
        x.work(0, 2);
        due.is("the first on 0", x.match(1, 1, -1), 9 + 10 - 3 - 5);
        due.is("the second on 0", x.match(2, 1, -1), 9 + 10 - 3);
        due.is("both", x.match(3, 3, -1), 9 + 10 - 3 + 9 + 40 - 3 - 5);
        due.about("25: sweat is 99 at most, and what a CLOUD takes");
        OwnRain y = Due.played("sweat 9999;field 1 needs 0 drowns 9;");
        y.person(9, 1, 0, 900);
        y.person(9, 1, 0, 901);
        y.person(9, 1, 0, 999);
        due.is("99", y.match(1, 1, -1), 99);
        due.is("98", y.match(2, 1, -1), 98);
        due.is("none", y.match(4, 1, -1), 0);
        due.is("it has a FIELD all the same", y.match(4, 1, 2), 0);
        OwnRain z = Due.played("sweat -5;field 1 needs 0 drowns 9;one 1 age 1 on 0;");
        due.is("0 at least", z.match(1, 1, -1), 0);
        matchWithoutSweat();
    }

    /** Where nobody sweats all are alike, yet only FIELDS of the set are given. */
    private static void matchWithoutSweat() {
        due.about("25: on a FIELD of the set, though nobody sweats anywhere");
        OwnRain x = Due.played("sweat 0;");
        for (int f = 0; f < 6; f++) {
            x.field(0, 0, 1);
        }
        for (int p = 0; p < 8; p++) {
            x.person(9, 9, 0, 0);
        }
        for (int people : new int[] {1, 0x80, 3, 0xc0, 0x92, 0x3f, 0xfc}) {
            for (int fields = 1; fields < 64; fields++) {
                boolean can = Integer.bitCount(people) == Integer.bitCount(fields);
                due.is("match(" + people + ", " + fields + ", -1)", x.match(people, fields, -1), can ? 0 : -1);
                lowestPlaces(x, people, fields, can);
            }
        }
    }

    private static void matchLikeOnes() {
        due.about("25: of like ones the lowest FIELD for the lowest PERSON, then the next");
        // 0 and 2 sweat alike everywhere; 1 sweats more on FIELD 0.
        OwnRain x = Due.played("sweat count who#1 end*5+count who=1 end*(9-here);field 0 needs 0 drowns 9;field 0 needs 0 drowns 9;field 0 needs 0 drowns 9;");
        for (int p = 0; p < 3; p++) {
            x.person(9, 1, 2, 0);
        }
        int[] want = {1, 0, 2};
        due.is("how much", x.match(7, 7, -1), 19);
        for (int p = 0; p < 3; p++) {
            due.is("where " + p, x.match(7, 7, p), want[p]);
        }
    }

    private static OwnRain clouds(int... clouds) {
        OwnRain x = new OwnRain();
        x.field(0, 0, 1);
        for (int cloud : clouds) {
            x.person(99, 1, 0, cloud);
        }
        return x;
    }

    private static void shareBounds() {
        due.about("26: an amount 0 .. 999");
        village.asks("shares(8, _, 3)", 0, 999, -1, (x, v) -> x.shares(8, v, 3), v -> v);
        village.asks("shares(2, _, 1)", 0, 999, -1, (x, v) -> x.shares(2, v, 1), v -> v);
        due.about("26: that of a PERSON of the set; NONE for others");
        village.asks("shares(15, 0, _)", 0, 3, -1, (x, v) -> x.shares(15, 0, v), v -> 0);
        village.asks("shares(10, 999, _)", 0, 3, -1, (x, v) -> x.shares(10, 999, v), v -> v == 1 ? 3 : v == 3 ? 996 : -1);
        village.asks("shares(_, 10, 1)", 1, 15, -1, (x, v) -> x.shares(v, 10, 1), v -> (v & 2) == 0 ? -1 : v >= 8 ? 0 : 10);
        empty.asks("shares(_, 10, 0)", 0, 255, -1, (x, v) -> x.shares(v, 10, 0), v -> -1);
        due.about("26: without any CLOUD none");
        village.asks("shares(5, _, 0)", 0, 999, -1, (x, v) -> x.shares(5, v, 0), v -> -1);
        village.asks("shares(1, 0, _)", 0, 3, -1, (x, v) -> x.shares(1, 0, v), v -> -1);
        OwnRain eight = clouds(999, 999, 999, 999, 999, 999, 999, 999);
        for (int p = 0; p < 8; p++) {
            due.is("of eight to " + p, eight.shares(255, 999, p), p < 7 ? 125 : 124);
            due.is("of one drop to " + p, eight.shares(255, 1, p), p == 0 ? 1 : 0);
            due.is("of a set with one more to " + p, eight.shares(511, 999, p), -1);
        }
        due.is("one who has nothing", clouds(0, 5).shares(3, 999, 0), 0);
        due.is("who has all", clouds(0, 5).shares(3, 999, 1), 999);
    }

    private static void shareLeftOver() {
        due.about("26: what is left by ones to those with the most left over by the cut, of like ones to the lowest");
        // 10 by 1 2 4: 1 3/7, 2 6/7, 5 5/7: two are left, for the second and the third.
        int[] ten = {1, 3, 6};
        // 11: 1 4/7, 3 1/7, 6 2/7: one for the first.
        int[] eleven = {2, 3, 6};
        // 14: none is left.
        int[] fourteen = {2, 4, 8};
        OwnRain x = clouds(1, 2, 4);
        for (int p = 0; p < 3; p++) {
            due.is("10 to " + p, x.shares(7, 10, p), ten[p]);
            due.is("11 to " + p, x.shares(7, 11, p), eleven[p]);
            due.is("14 to " + p, x.shares(7, 14, p), fourteen[p]);
        }
        OwnRain like = clouds(3, 1, 3, 1, 3);
        int[] one = {1, 0, 0, 0, 0};
        int[] two = {1, 0, 1, 0, 0};
        for (int p = 0; p < 5; p++) {
            due.is("1 to " + p, like.shares(31, 1, p), one[p]);
            due.is("2 to " + p, like.shares(31, 2, p), two[p]);
        }
    }

    /** A row of FIELDS with ROADS to the next, WET by what is told. */
    private static OwnRain row(int... wet) {
        OwnRain x = new OwnRain();
        for (int f = 0; f < wet.length; f++) {
            x.field(0, 0, 999);
            x.person(1, 1, f, wet[f]);
            x.road(f, f - 1);
        }
        x.hour(1);
        return x;
    }

    private static void crossBounds() {
        due.about("27: from one FIELD to another; NONE for others");
        Edges row = new Edges(due, () -> row(5, 4, 3, 2, 1, 0));
        row.asks("cross(_, 0, 0, -1)", 0, 5, -1, (x, v) -> x.cross(v, 0, 0, -1), v -> v);
        row.asks("cross(0, _, 0, -1)", 0, 5, -1, (x, v) -> x.cross(0, v, 0, -1), v -> v);
        village.asks("cross(0, _, 0, -1)", 0, 3, -1, (x, v) -> x.cross(0, v, 0, -1), v -> v == 3 ? -1 : v);
        village.asks("cross(_, _, 999, -1)", 0, 3, -1, (x, v) -> x.cross(v, v, 999, -1), v -> 0);
        empty.asks("cross(_, _, 0, -1)", 0, 5, -1, (x, v) -> x.cross(v, v, 0, -1), v -> -1);
        due.about("27: how many ROADS (i NONE), the i-th FIELD come to; NONE: there is none such");
        row.asks("cross(0, 5, 0, _)", -1, 4, -1, (x, v) -> x.cross(0, 5, 0, v), v -> v == -1 ? 5 : v + 1);
        row.asks("cross(5, 0, 0, _)", -1, 4, -1, (x, v) -> x.cross(5, 0, 0, v), v -> v == -1 ? 5 : 4 - v);
        row.asks("cross(2, 2, 0, _)", -1, -1, -1, (x, v) -> x.cross(2, 2, 0, v), v -> 0);
        row.asks("cross(0, 5, 1, _)", -1, 4, -1, (x, v) -> x.cross(0, 5, 1, v), v -> -1);
        due.about("27: one is there: no FIELD is come to, dry as it may be between wet ones");
        Edges dry = new Edges(due, () -> row(9, 0, 9));
        for (int thirst : new int[] {0, 1, 9, 10, 999}) {
            dry.asks("cross(1, 1, " + thirst + ", _)", -1, -1, -1, (x, v) -> x.cross(1, 1, thirst, v), v -> 0);
            dry.asks("cross(0, 0, " + thirst + ", _)", -1, -1, -1, (x, v) -> x.cross(0, 0, thirst, v), v -> 0);
        }
        dry.asks("cross(1, 2, 9, _)", -1, 0, -1, (x, v) -> x.cross(1, 2, 9, v), v -> v == -1 ? 1 : 2);
        dry.asks("cross(0, 2, 1, _)", -1, 4, -1, (x, v) -> x.cross(0, 2, 1, v), v -> -1);
    }

    private static void crossThirst() {
        due.about("27: a thirst (0 .. 999); each FIELD come to (that one, too) being WET by so much at least");
        Edges two = new Edges(due, () -> row(0, 7));
        two.asks("cross(0, 1, _, -1)", 0, 999, -1, (x, v) -> x.cross(0, 1, v, -1), v -> v <= 7 ? 1 : -1);
        two.asks("cross(1, 0, _, -1)", 0, 999, -1, (x, v) -> x.cross(1, 0, v, -1), v -> v == 0 ? 1 : -1);
        Edges three = new Edges(due, () -> row(0, 7, 999));
        three.asks("cross(0, 2, _, -1)", 0, 999, -1, (x, v) -> x.cross(0, 2, v, -1), v -> v <= 7 ? 2 : -1);
        three.asks("cross(1, 2, _, -1)", 0, 999, -1, (x, v) -> x.cross(1, 2, v, -1), v -> 1);
        three.asks("cross(1, 1, _, -1)", 0, 999, -1, (x, v) -> x.cross(1, 1, v, -1), v -> 0);
        for (int thirst = 5; thirst <= 9; thirst++) {
            due.is("thirst " + thirst, row(0, 7, 8).cross(0, 2, thirst, -1), thirst <= 7 ? 2 : -1);
            due.is("back by thirst " + thirst, row(7, 8, 0).cross(2, 0, thirst, -1), thirst <= 7 ? 2 : -1);
        }
    }

    private static void crossFar() {
        due.about("27: the fewest ROADS; of like ones the lowest next FIELD, and so on");
        OwnRain x = row(1, 1, 1, 1, 1, 1);
        x.road(0, 3);
        x.road(0, 4);
        due.is("to 5 by two", x.cross(0, 5, 1, -1), 2);
        due.is("by 4", x.cross(0, 5, 1, 0), 4);
        x.road(1, 5);
        due.is("by 1, the lowest", x.cross(0, 5, 1, 0), 1);
        due.is("from 5 by 1, the lowest", x.cross(5, 0, 1, 0), 1);
        due.is("from 2 to 5 by 1", x.cross(2, 5, 1, 0), 1);
        OwnRain all = Village.full();
        for (int f = 1; f < 6; f++) {
            due.is("one ROAD to each", all.cross(0, f, 0, -1), 1);
            due.is("which is there", all.cross(0, f, 0, 0), f);
        }
    }

    private static void widest() {
        due.about("28: NONE: none, and for others");
        int[] from0 = {999, 0, 0, -1};
        village.asks("widest(0, _)", 0, 3, -1, (x, v) -> x.widest(0, v), v -> from0[v]);
        village.asks("widest(_, 0)", 0, 3, -1, (x, v) -> x.widest(v, 0), v -> v == 0 ? 999 : v == 1 ? 12 : v == 2 ? 0 : -1);
        village.asks("widest(4, _)", 0, 3, -1, (x, v) -> x.widest(4, v), v -> -1);
        empty.asks("widest(_, _)", 0, 5, -1, (x, v) -> x.widest(v, v), v -> -1);
        due.about("28: the greatest thirst by which one can cross (999: one is there)");
        for (int f = 0; f < 4; f++) {
            due.is("one is there", Village.anew().widest(f, f), 999);
        }
        OwnRain x = row(1, 9, 5, 7, 999, 6);
        int[][] want = {{999, 9, 5, 5, 5, 5}, {1, 999, 5, 5, 5, 5}, {1, 9, 999, 7, 7, 6}, {1, 5, 5, 999, 999, 6}, {1, 5, 5, 7, 999, 6}, {1, 5, 5, 7, 999, 999}};
        for (int from = 0; from < 6; from++) {
            for (int to = 0; to < 6; to++) {
                due.is("widest(" + from + ", " + to + ")", x.widest(from, to), want[from][to]);
            }
        }
        due.about("28: 999 at most");
        OwnRain wet = row(0, 998);
        wet.person(1, 1, 1, 1);
        due.is("998", wet.widest(0, 1), 998);
        wet.hour(1);
        due.is("999", wet.widest(0, 1), 999);
        wet.person(1, 1, 1, 1);
        wet.hour(1);
        due.is("WET", wet.ofField(1, 3), 1000);
        due.is("1000", wet.widest(0, 1), 999);
        due.is("thirst 999", wet.cross(0, 1, 999, -1), 1);
    }

    private static void taxBounds() {
        due.about("38: the next n HOURS (1 .. 30); NONE for others");
        Edges farm = new Edges(due, () -> farm(30, 999, 99, 99));
        // WET stays as it was in the first HOUR: of 99 a tax of 6 leaves 40, of 7 leaves 30.
        farm.asks("greatestTax(_)", 1, 30, -1, (x, v) -> x.greatestTax(v), v -> 7);
        empty.asks("greatestTax(_)", 1, 30, -1, (x, v) -> x.greatestTax(v), v -> 10);
        full.asks("greatestTax(_) at 999", 1, 30, -1, (x, v) -> x.greatestTax(v) < 0 ? -1 : 1, v -> 1);
    }

    private static void taxes() {
        due.about("38: THE GREATEST TAX (0 .. 10)");
        for (int tax = 0; tax <= 10; tax++) {
            int left = 90 - 9 * tax;
            due.is("what is left is just enough by " + tax, farm(left, 999, 90, 90).greatestTax(30), tax);
            due.is("one more is too much by " + tax, farm(left + 1, 999, 90, 90).greatestTax(30), tax == 0 ? 10 : tax - 1);
        }
        due.about("38: as much as by tax 0, or more; each FIELD");
        OwnRain x = farm(45, 90, 90, 90);
        due.is("by tax 0 it drowns, so all are more or as much", x.greatestTax(30), 10);
        x.field(0, 20, 999);
        x.person(40, 1, 1, 40);
        due.is("of 40 half is needed on the other", x.greatestTax(1), 5);
        due.about("38: GROWN ahead of it doesn't count, tax by law neither");
        OwnRain y = Due.played("tax 10;field 0 needs 10 drowns 999;");
        y.person(20, 1, 0, 20);
        due.is("5 though the law is 10", y.greatestTax(1), 5);
        y.by(-1);
        due.is("5 without law", y.greatestTax(1), 5);
        y.hour(3);
        due.is("GROWN", y.ofField(0, 4), 3);
        due.is("none rains any more", y.greatestTax(30), 10);
    }
}
