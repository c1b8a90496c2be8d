import java.util.function.Consumer;

/** Promises 11 to 18 and 39 to 41 at their bounds: STEPS, what they are taken back to, and IMAGES. */
public final class EdgesStepTest {
    private static final Due due = new Due();
    private static final Edges village = new Edges(due, Village::anew);
    private static final Edges full = new Edges(due, Village::full);
    private static final Edges empty = new Edges(due, OwnRain::new);

    public static void main(String[] args) {
        works();
        goes();
        shakes();
        shareIsBrought();
        neitherAbove999();
        steals();
        pours();
        plays();
        playsWhatCantBe();
        playsHours();
        years();
        yearsAtTheirEnds();
        yearsOfOne();
        thefts();
        yearsUpTo999();
        eachStepIsTakenBack();
        thirtySteps();
        whatIsNoStep();
        toldSince();
        water();
        images();
        imagesOfLists();
        due.close();
    }

    private static long is(boolean answer) {
        return answer ? 1 : 0;
    }

    private static void works() {
        due.about("11: a PERSON's WORK 0 .. 9 (another one); false for others, and if it does so already");
        village.does("work(_, 1)", 0, 3, 0, (x, v) -> is(x.work(v, 1)), v -> 1);
        village.does("work(0, _)", 0, 9, 0, (x, v) -> is(x.work(0, v)), v -> v == 6 ? 0 : 1);
        village.does("work(3, _)", 0, 9, 0, (x, v) -> is(x.work(3, v)), v -> v == 0 ? 0 : 1);
        village.does("work(_, 10)", 0, 3, 0, (x, v) -> is(x.work(v, 10)), v -> 0);
        village.does("work(4, _)", 0, 9, 0, (x, v) -> is(x.work(4, v)), v -> 0);
        full.does("work(_, 9)", 0, 7, 0, (x, v) -> is(x.work(v, 9)), v -> 1);
        empty.does("work(_, 1)", 0, 7, 0, (x, v) -> is(x.work(v, 1)), v -> 0);
        OwnRain x = Village.anew();
        for (int work : new int[] {0, 9, 1, 8}) {
            x.work(2, work);
            due.is("WORK", x.ofPerson(2, 4), work);
        }
    }

    private static void goes() {
        due.about("12: to another FIELD by a ROAD; false, if it can't be, and for others");
        village.does("go(_, 1)", 0, 3, 0, (x, v) -> is(x.go(v, 1)), v -> 1);
        village.does("go(_, 0)", 0, 3, 0, (x, v) -> is(x.go(v, 0)), v -> 0);
        village.does("go(0, _)", 0, 3, 0, (x, v) -> is(x.go(0, v)), v -> v == 1 ? 1 : 0);
        village.does("go(2, _)", 0, 3, 0, (x, v) -> is(x.go(2, v)), v -> v == 1 ? 1 : 0);
        village.does("go(4, _)", 0, 3, 0, (x, v) -> is(x.go(4, v)), v -> 0);
        full.does("go(7, _)", 0, 5, 0, (x, v) -> is(x.go(7, v)), v -> v == 1 ? 0 : 1);
        full.does("go(_, 5)", 0, 7, 0, (x, v) -> is(x.go(v, 5)), v -> v == 5 ? 0 : 1);
        empty.does("go(_, 0)", 0, 7, 0, (x, v) -> is(x.go(v, 0)), v -> 0);
    }

    private static void shakes() {
        due.about("13: of two unlike PEOPLE on one FIELD; NONE, if it can't be, and for others");
        int[] with0 = {-1, 1, -1, 499};
        village.does("shake(_, 0)", 0, 3, -1, (x, v) -> x.shake(v, 0), v -> with0[v]);
        village.does("shake(0, _)", 0, 3, -1, (x, v) -> x.shake(0, v), v -> with0[v]);
        village.does("shake(2, _)", 0, 3, -1, (x, v) -> x.shake(2, v), v -> -1);
        village.does("shake(_, 4)", 0, 3, -1, (x, v) -> x.shake(v, 4), v -> -1);
        village.does("shake(4, _)", 0, 3, -1, (x, v) -> x.shake(4, v), v -> -1);
        full.does("shake(_, 7)", 0, 7, -1, (x, v) -> x.shake(v, 7), v -> v == 1 ? half(1, 7) : -1);
        empty.does("shake(_, 0)", 0, 7, -1, (x, v) -> x.shake(v, 0), v -> -1);
    }

    private static long half(int one, int other) {
        OwnRain x = Village.full();
        return (x.ofPerson(one, 3) + x.ofPerson(other, 3)) / 2;
    }

    /** The CLOUD of the one behind SHAKES; both stay what they were together. */
    private static int share(String law, int one, int other) {
        OwnRain x = Due.played(law + "field 0 needs 0 drowns 9;");
        x.person(99, 1, 0, one);
        x.person(99, 1, 0, other);
        int share = x.shake(0, 1);
        due.is("the one's by " + law, x.ofPerson(0, 3), share);
        due.is("the rest by " + law, x.ofPerson(1, 3), one + other - share);
        return share;
    }

    private static void shareIsBrought() {
        due.about("II: share: 0 at least, both at most");
        for (int value : new int[] {-9999, -2, -1, 0, 1, 2, 28, 29, 30, 31, 32, 9999}) {
            String law = "share " + (value < 0 ? "-" : "") + Math.abs(value) + ";";
            due.is("of 10 and 20 by " + value, share(law, 10, 20), Math.max(0, Math.min(30, value)));
            due.is("of 0 and 0 by " + value, share(law, 0, 0), 0);
        }
        due.about("II: share without: half of both, cut");
        for (int one = 0; one <= 3; one++) {
            for (int other = 0; other <= 3; other++) {
                due.is("of " + one + " and " + other, share("", one, other), (one + other) / 2);
            }
        }
        due.is("of 999 and 998", share("", 999, 998), 998);
        due.is("of 998 and 999", share("", 998, 999), 998);
        due.is("of 999 and 999", share("", 999, 999), 999);
    }

    private static void neitherAbove999() {
        due.about("II: then as near to it as neither CLOUD is above 999");
        int[][] clouds = {{500, 498}, {500, 499}, {500, 500}, {999, 0}, {999, 1}, {999, 2}, {0, 999}, {999, 998}, {999, 999}};
        for (int[] c : clouds) {
            int both = c[0] + c[1];
            for (int value : new int[] {0, 1, 2, both - 1000, both - 999, both - 998, both / 2, 998, 999, 1000, both - 1, both}) {
                if (value >= 0) {
                    int want = Math.max(both - 999, Math.min(999, Math.min(both, value)));
                    due.is("of " + c[0] + " and " + c[1] + " by " + value, share("share " + value + ";", c[0], c[1]), want);
                }
            }
        }
    }

    private static void steals() {
        due.about("14: a PERSON from another one on the same FIELD");
        int[] from1 = {1, -1, -1, 999};
        village.does("steal(_, 1, 1)", 0, 3, -1, (x, v) -> x.steal(v, 1, 1), v -> from1[v]);
        village.does("steal(0, _, 1)", 0, 3, -1, (x, v) -> x.steal(0, v, 1), v -> v % 2 == 1 ? 1 : -1);
        village.does("steal(_, 3, 1)", 0, 3, -1, (x, v) -> x.steal(v, 3, 1), v -> v == 0 ? 1 : v == 1 ? 4 : -1);
        village.does("steal(4, _, 1)", 0, 3, -1, (x, v) -> x.steal(4, v, 1), v -> -1);
        empty.does("steal(_, 0, 1)", 0, 7, -1, (x, v) -> x.steal(v, 0, 1), v -> -1);
        due.about("14: 1 .. 99 out of its CLOUD (no more than that)");
        village.does("steal(0, 3, _)", 1, 99, -1, (x, v) -> x.steal(0, 3, v), v -> v);
        village.does("steal(0, 1, _)", 1, 3, -1, (x, v) -> x.steal(0, 1, v), v -> v);
        village.does("steal(1, 0, _)", 1, 99, -1, (x, v) -> x.steal(1, 0, v), v -> -1);
        due.about("14: NONE, if it can't be (999 at most)");
        village.does("steal(3, 1, _)", 1, 1, -1, (x, v) -> x.steal(3, 1, v), v -> 999);
        for (int cloud : new int[] {899, 900, 901, 949, 950, 951, 998, 999}) {
            Edges near = new Edges(due, () -> {
                OwnRain x = Village.anew();
                x.person(99, 1, 1, cloud);
                x.person(99, 1, 1, 500);
                return x;
            });
            near.does("steal of one with " + cloud, 1, Math.min(99, 999 - cloud), -1, (x, v) -> x.steal(4, 5, v), v -> cloud + v);
        }
    }

    private static void pours() {
        due.about("15: 1 .. 999 of the CISTERN (no more than that) on a FIELD: WET more");
        village.does("pour(_, 0)", 1, 16, -1, (x, v) -> x.pour(v, 0), v -> 12 + v);
        village.does("pour(1, _)", 0, 3, -1, (x, v) -> x.pour(1, v), v -> v == 0 ? 13 : 1);
        empty.does("pour(_, 0)", 1, 999, -1, (x, v) -> x.pour(v, 0), v -> -1);
        for (int cistern : new int[] {997, 998, 999, 1000, 1998}) {
            Edges wet = new Edges(due, () -> cistern(cistern));
            wet.does("pour(_, 0) of " + cistern, 1, Math.min(999, cistern), -1, (x, v) -> x.pour(v, 0), v -> v);
        }
        due.about("15: WET has no bound, and the CISTERN is emptied");
        OwnRain x = cistern(1998);
        due.is("999", x.pour(999, 0), 999);
        due.is("999 more", x.pour(999, 0), 1998);
        due.is("nothing is left", x.about(3), 0);
        due.is("so none can be", x.pour(1, 0), -1);
    }

    private static OwnRain cistern(int drops) {
        OwnRain x = Due.played("tax 10;field 0 needs 0 drowns 9;");
        x.person(1, 1, 0, drops / 2);
        x.person(1, 1, 0, drops - drops / 2);
        x.hour(1);
        return x;
    }

    private static void plays() {
        due.about("16: PLAYED by a TEXT; -2 for others");
        village.takes("played(_)", 0, 1, -2, (x, v) -> x.played(v), v -> -1);
        empty.takes("played(_)", 0, 3, -2, (x, v) -> x.played(v), v -> -2);
        full.takes("played(_)", 0, 3, -2, (x, v) -> x.played(v), v -> v == 3 ? 0 : -1);
        due.about("16: its CLAUSES but laws: THE TEXT stays");
        OwnRain x = Village.anew();
        x.played(1);
        due.is("nothing is done", Whole.of(x).equals(Whole.of(Village.anew())), true);
        due.about("16: in their order, as by hand");
        String script = "field 1 needs 2 drowns 30;field 4 needs 5 drowns 6;tax 3;road 0 to 1;one 70 age 8 on 0;one 9 age 10 on 0;work 0 by 9;hour 3;shake 0 to 1;steal 1 from 0 by 2;go 0 to 1;hour 1;";
        OwnRain one = new OwnRain();
        Due.read(one, script);
        due.is("played", one.played(0), -1);
        OwnRain other = new OwnRain();
        Due.read(other, script);
        byHand(other);
        due.is("alike", Whole.of(one).equals(Whole.of(other)), true);
        due.is("CLOUD of one is 0", Due.played("field 0 needs 0 drowns 1;one 99 age 99 on 0;").ofPerson(0, 3), 0);
    }

    private static void byHand(OwnRain x) {
        x.field(1, 2, 30);
        x.field(4, 5, 6);
        x.road(0, 1);
        x.person(70, 8, 0, 0);
        x.person(9, 10, 0, 0);
        x.work(0, 9);
        x.hour(3);
        due.is("shake", x.shake(0, 1), 13);
        due.is("steal", x.steal(1, 0, 2), 16);
        x.go(0, 1);
        due.is("hour", x.hour(1), 1);
    }

    private static void playsWhatCantBe() {
        due.about("16: one that can't be ends it: its number among all CLAUSES (from 0); what was done stays");
        for (int number : new int[] {0, 1, 2, 12, 22, 23}) {
            OwnRain x = new OwnRain();
            String bytes = "tax 1;".repeat(Math.min(1, number)) + "hour 1;".repeat(Math.max(0, number - 1)) + "road 0 to 1;" + "hour 1;".repeat(23 - number);
            due.is("it is read", Due.read(x, bytes), 0);
            due.is("the number", x.played(0), number);
            due.is("HOURS ahead of it", x.about(2), Math.max(0, number - 1));
            due.is("STEPS ahead of it", x.about(9), Math.max(0, number - 1));
        }
        due.about("16: each kind that can't be");
        String[] cant = {"field 1 needs 2 drowns 2;", "field 0 needs 999 drowns 999;", "road 0 to 1;", "road 1 to 0;", "road 2 to 2;", "road 0 to 4;",
            "one 1 age 1 on 4;", "work 0 by 6;", "work 4 by 1;", "go 0 to 2;", "go 0 to 0;", "go 0 to 3;", "go 4 to 1;", "go 0 to 5;", "shake 0 to 0;", "shake 0 to 2;",
            "shake 0 to 7;", "steal 0 from 1 by 4;", "steal 0 from 0 by 1;", "steal 3 from 1 by 2;", "steal 0 from 2 by 1;", "pour 17 on 0;", "pour 1 on 4;"};
        for (String clause : cant) {
            OwnRain x = Village.anew();
            due.is("it is read: " + clause, Due.read(x, clause + "hour 1;"), 2);
            due.is(clause, x.played(2), 0);
            OwnRain y = Village.anew();
            Due.read(y, clause + "hour 1;");
            due.is(clause + " does nothing", Whole.of(x).equals(Whole.of(y)), true);
        }
        OwnRain full = fullButTexts();
        due.is("a seventh FIELD is read", Due.read(full, "hour 1;field 0 needs 0 drowns 1;"), 0);
        due.is("a ninth PERSON is read", Due.read(full, "hour 1;hour 1;one 1 age 0 on 0;"), 1);
        due.is("a seventh FIELD", full.played(0), 1);
        due.is("a ninth PERSON", full.played(1), 2);
        due.is("HOURS", full.about(2), 3);
    }

    private static OwnRain fullButTexts() {
        OwnRain x = new OwnRain();
        for (int f = 0; f < 6; f++) {
            x.field(0, 0, 1);
        }
        for (int p = 0; p < 8; p++) {
            x.person(1, 1, 0, 0);
        }
        return x;
    }

    private static void playsHours() {
        due.about("16: of so many HOURS those that can are");
        for (int at : new int[] {968, 969, 970, 989, 998, 999}) {
            for (int hours : new int[] {1, 10, 30}) {
                OwnRain x = new OwnRain();
                Village.atHour(x, at);
                Due.read(x, "tax 1;hour " + hours + ";field 0 needs 0 drowns 1;");
                boolean can = at + hours <= 999;
                due.is(hours + " at " + at, x.played(0), can ? -1 : 1);
                due.is("HOUR then", x.about(2), Math.min(999, at + hours));
                due.is("and what is behind", x.about(0), can ? 1 : 0);
            }
        }
    }

    private static void years() {
        due.about("17: SEED (0 .. 9999)");
        village.does("year(_, 1)", 0, 9999, -1, (x, v) -> x.year(v, 1) < 0 ? -1 : 1, v -> 1);
        due.about("17: n times (1 .. 30)");
        village.does("year(0, _)", 1, 30, -1, (x, v) -> x.year(0, v) < 0 ? -1 : 1, v -> 1);
        village.does("year(10000, _)", 1, 30, -1, (x, v) -> x.year(10000, v), v -> -1);
        village.does("year(-1, _)", 1, 30, -1, (x, v) -> x.year(-1, v), v -> -1);
        due.about("17: NONE without PEOPLE");
        empty.does("year(_, 1)", 0, 9999, -1, (x, v) -> x.year(v, 1), v -> -1);
        Edges alone = new Edges(due, () -> {
            OwnRain x = new OwnRain();
            x.field(0, 0, 1);
            return x;
        });
        alone.does("year(_, 30)", 0, 9999, -1, (x, v) -> x.year(v, 30), v -> -1);
        due.about("17: X is SEED * 2 + 37; X anew twice each time");
        for (int seed : new int[] {0, 1, 5000, 9998, 9999}) {
            for (int n : new int[] {1, 2, 29, 30}) {
                OwnRain x = Village.anew();
                x.year(seed, n);
                int drawn = seed * 2 + 37;
                for (int i = 0; i < 2 * n; i++) {
                    drawn = (drawn * 233 + 131) % 30187;
                }
                due.is("X of " + seed + ", " + n, x.about(6), drawn);
                due.is("one STEP", x.about(9), 7);
            }
        }
    }

    /** A YEAR of one draw after another is the same as the first that many draws of a longer one. */
    private static void yearsAtTheirEnds() {
        due.about("17: how often it rained (in all)");
        for (int seed : new int[] {0, 3, 17, 400, 9999}) {
            OwnRain x = Village.anew();
            x.by(1);
            int before = x.about(2);
            int rains = x.year(seed, 30);
            int written = 0;
            for (int i = 0; i < x.rained(-1, 0); i++) {
                written += x.rained(i, 1) >= before ? 1 : 0;
            }
            due.is("rains of " + seed, rains, written);
        }
    }

    private static void yearsOfOne() {
        due.about("17: with one PERSON on one FIELD it can neither go, shake hands nor steal");
        for (int seed = 0; seed < 200; seed++) {
            OwnRain x = new OwnRain();
            x.field(0, 0, 1);
            x.person(99, 1, 0, 50);
            int rains = x.year(seed, 1);
            int drawn = ((seed * 2 + 37) * 233 + 131) % 30187;
            due.is("WORK, seed " + seed, x.ofPerson(0, 4), drawn % 6 == 0 ? drawn % 10 : 0);
            due.is("CLOUD, seed " + seed, x.ofPerson(0, 3), 50);
            due.is("HOUR, seed " + seed, x.about(2), drawn % 6 > 3 ? 1 : 0);
            due.is("rains, seed " + seed, rains, 0);
            due.is("STEPS, seed " + seed, x.about(9), 1);
        }
    }

    /** Every seed whose first draw is a theft, with CLOUDS at which it can just be or not. */
    private static void thefts() {
        due.about("17: it STEALS 1 and X mod 9 from that one, or what there is, if it can (from one who has nothing it can't)");
        int[] seen = new int[8];
        for (int seed = 0; seed < 10000; seed++) {
            int first = seed * 2 + 37;
            int drawn = (first * 233 + 131) % 30187;
            if (drawn % 6 == 3) {
                seen[theft(seed, first % 5, drawn)]++;
            }
        }
        // What is 3 by 6 is 0, 3 or 6 by 9, so 7 are the most.
        for (int taken = 0; taken < 8; taken++) {
            due.is("seen of " + taken, seen[taken] > 3, true);
        }
    }

    /** One of five PEOPLE steals from another, or can't: how much. */
    private static int theft(int seed, int thief, int drawn) {
        int from = drawn % 5;
        int drops = 1 + drawn % 9;
        int has = seed / 7 % 12;
        int own = seed % 3 == 0 ? Math.min(999, 999 - drops + seed / 3 % 3 - 1) : 5;
        OwnRain x = new OwnRain();
        x.field(0, 0, 1);
        for (int p = 0; p < 5; p++) {
            x.person(99, 1, 0, p == thief ? own : has);
        }
        x.year(seed, 1);
        int taken = Math.min(drops, has);
        boolean can = thief != from && taken > 0 && own + taken <= 999;
        taken = can ? taken : 0;
        for (int p = 0; p < 5; p++) {
            int want = p == thief ? own + taken : p == from ? has - taken : has;
            due.is("CLOUD of " + p + ", seed " + seed, x.ofPerson(p, 3), want);
        }
        return taken;
    }

    private static void yearsUpTo999() {
        due.about("17: else an HOUR (999 stays: then none)");
        for (int at : new int[] {985, 995, 998, 999}) {
            for (int seed : new int[] {0, 77, 9999}) {
                OwnRain x = new OwnRain();
                x.field(0, 0, 1);
                x.person(1, 1, 0, 0);
                Village.atHour(x, at);
                Due.read(x, "sweat 1;");
                x.by(0);
                int drawn = seed * 2 + 37;
                int hours = 0;
                for (int i = 0; i < 30; i++) {
                    drawn = (drawn * 233 + 131) % 30187;
                    hours += drawn % 6 > 3 ? 1 : 0;
                    drawn = (drawn * 233 + 131) % 30187;
                }
                due.is("rains of " + seed + " at " + at, x.year(seed, 30), Math.min(hours, 999 - at));
                due.is("HOUR", x.about(2), Math.min(999, at + hours));
                due.is("X all the same", x.about(6), drawn);
                due.is("taken back", x.undo() >= 0, true);
                due.is("HOUR ahead of it", x.about(2), at);
                due.is("X ahead of it", x.about(6), 37);
            }
        }
    }

    private static void eachStepIsTakenBack() {
        due.about("18: the latest STEP is taken back: all is as ahead of it");
        String before = Whole.of(Village.anew());
        takenBack("work(2, 5)", before, x -> x.work(2, 5));
        takenBack("go(0, 1)", before, x -> x.go(0, 1));
        takenBack("shake(0, 3)", before, x -> x.shake(0, 3));
        takenBack("steal(0, 3, 99)", before, x -> x.steal(0, 3, 99));
        takenBack("pour(16, 3)", before, x -> x.pour(16, 3));
        takenBack("hour(1)", before, x -> x.hour(1));
        for (int seed = 0; seed < 12; seed++) {
            int its = seed;
            takenBack("year(" + seed + ", 30)", before, x -> x.year(its, 30));
        }
        due.about("18: NONE: there is none");
        OwnRain x = Village.anew();
        for (int left = 5; left >= 0; left--) {
            due.is("undo()", x.undo(), left);
            due.is("STEPS", x.about(9), left);
        }
        String none = Seen.of(x);
        due.is("undo() of none", x.undo(), -1);
        due.is("undo() of none again", x.undo(), -1);
        due.is("nothing is changed", Seen.of(x).equals(none), true);
        empty.refuses("undo()", -1, OwnRain::undo);
    }

    private static void takenBack(String name, String before, Consumer<OwnRain> step) {
        OwnRain x = Village.anew();
        step.accept(x);
        due.is(name + " is a STEP", x.about(9), 7);
        due.is(name + " does something", Seen.of(x).equals(Seen.of(Village.anew())), false);
        due.is("undo()", x.undo(), 6);
        due.is(name + " is taken back", Whole.of(x).equals(before), true);
    }

    private static void thirtySteps() {
        due.about("18: the latest 30 can be taken back, the latest first");
        for (int many : new int[] {1, 29, 30, 31, 59, 60, 61, 95}) {
            OwnRain x = new OwnRain();
            x.field(0, 0, 1);
            x.person(1, 1, 0, 0);
            for (int i = 1; i <= many; i++) {
                x.work(0, i % 10);
            }
            int can = Math.min(30, many);
            due.is("STEPS of " + many, x.about(9), can);
            for (int left = can - 1; left >= 0; left--) {
                due.is("undo()", x.undo(), left);
                due.is("WORK then", x.ofPerson(0, 4), (many - can + left) % 10);
            }
            due.is("no more", x.undo(), -1);
            due.is("WORK stays", x.ofPerson(0, 4), (many - can) % 10);
        }
        OwnRain hours = Village.full();
        for (int left = 29; left >= 0; left--) {
            due.is("undo()", hours.undo(), left);
            due.is("HOUR", hours.about(2), 970 + left - 1);
        }
        due.is("no more HOURS", hours.undo(), -1);
    }

    private static void whatIsNoStep() {
        due.about("18: what isn't told in I is not taken back");
        OwnRain x = Village.anew();
        x.work(0, 7);
        x.by(1);
        x.missing(2, 1, 2);
        x.forecast(1, true);
        x.offer(true, 1, 1);
        x.road(3, 0);
        x.end(7);
        x.undo();
        int[] what = {8, 10, 11, 12, 13, 7};
        int[] want = {1, 3, 3, 4, 7, 2};
        for (int i = 0; i < what.length; i++) {
            due.is("about(" + what[i] + ")", x.about(what[i]), want[i]);
        }
        due.is("the ROAD", x.ofField(3, 7), 1);
        due.is("WORK", x.ofPerson(0, 4), 6);
    }

    private static void toldSince() {
        due.about("18: FIELDS, PEOPLE told since are as they were told, and were nowhere");
        OwnRain x = Village.anew();
        x.hour(2);
        x.field(9, 0, 999);
        x.road(4, 0);
        x.person(1, 99, 4, 999);
        x.person(99, 0, 0, 0);
        x.work(4, 9);
        x.hour(1);
        x.go(4, 0);
        x.shake(5, 0);
        x.go(5, 4);
        x.work(5, 3);
        x.hour(2);
        due.is("WET", x.ofField(4, 3) > 400, true);
        due.is("GROWN or FLOODED", x.ofField(4, 4) + x.ofField(4, 5), 3);
        for (int i = 0; i < 9; i++) {
            x.undo();
        }
        due.is("HOUR", x.about(2), 4);
        int[] field = {9, 0, 999, 0, 0, 0, 16, 1};
        for (int what = 0; what < 8; what++) {
            due.is("ofField(4, " + what + ")", x.ofField(4, what), field[what]);
        }
        int[][] people = {{1, 99, 4, 999, 0, 0}, {99, 0, 0, 0, 0, 0}};
        for (int what = 0; what < 6; what++) {
            due.is("ofPerson(4, " + what + ")", x.ofPerson(4, what), people[0][what]);
            due.is("ofPerson(5, " + what + ")", x.ofPerson(5, what), people[1][what]);
        }
        for (int h = 0; h <= 8; h++) {
            due.is("WHERE in " + h, x.ofPerson(4, 10 + h), -1);
            due.is("WHERE the other in " + h, x.ofPerson(5, 10 + h), -1);
        }
        due.is("one told ahead of it was there", x.ofPerson(0, 13), 0);
        due.is("WATER has what was told with it", x.water(), 13 + 998 + 999);
        due.about("18: all STEPS back, with people told in between");
        while (x.undo() != -1) {
            due.is("WATER", x.water(), 13 + 998 + 999);
        }
        int[] cloud = {5, 8, 0, 998, 999, 0};
        int[] at = {0, 0, 1, 0, 4, 0};
        for (int p = 0; p < 6; p++) {
            due.is("CLOUD of " + p, x.ofPerson(p, 3), cloud[p]);
            due.is("FIELD of " + p, x.ofPerson(p, 2), at[p]);
            due.is("WORK of " + p, x.ofPerson(p, 4), 0);
        }
    }

    private static void water() {
        due.about("39: WATER is what was told with the CLOUDS");
        due.is("of nothing", new OwnRain().water(), 0);
        due.is("of the village", Village.anew().water(), 13 + 998);
        due.is("of the full one", Village.full().water(), 280);
        OwnRain x = new OwnRain();
        x.field(9, 0, 1);
        int told = 0;
        for (int p = 0; p < 8; p++) {
            x.person(1, 1, 0, p % 2 == 0 ? 999 : 1);
            told += p % 2 == 0 ? 999 : 1;
            due.is("with " + p, x.water(), told);
        }
        x.hour(30);
        due.is("30 HOURS later", x.water(), told);
    }

    private static void images() {
        due.about("40: THE IMAGE is as all is now: HOUR");
        for (int hour : new int[] {0, 1, 500, 998, 999}) {
            OwnRain x = new OwnRain();
            Village.atHour(x, hour);
            due.is("image()", x.image(), hour);
            x.undo();
            x.field(0, 0, 1);
            due.about("41: BACK to THE IMAGE (it stays): HOUR");
            for (int i = 0; i < 3; i++) {
                due.is("back()", x.back(), hour);
                due.is("HOUR", x.about(2), hour);
                due.is("no FIELD", x.about(0), 0);
                due.is("STEPS", x.about(9), Math.min(30, hour));
                x.undo();
                x.field(1, 1, 2);
            }
        }
        due.about("40: all as it is, but the tape and the latest FAULT");
        OwnRain y = Village.full();
        y.image();
        OwnRain same = Village.full();
        same.image();
        String whole = Whole.of(same);
        y.missing(-1, 0, 0);
        y.forecast(-1, true);
        y.offer(true, 0, 0);
        y.by(-1);
        y.undo();
        y.work(0, 5);
        y.go(7, 0);
        y.back();
        due.is("all is so again", Whole.of(y).equals(whole), true);
        OwnRain z = Village.anew();
        z.image();
        Due.read(z, "tax 10000;");
        Due.load(z, "tax 9;");
        z.back();
        due.is("the tape stays", z.about(13), 6);
        due.is("the FAULT stays", z.fault(0), 2);
        due.is("its place stays", z.fault(1), 4);
        due.is("the tape is read", z.text(), 2);
        z.back();
        due.is("the TEXT isn't there", z.about(7), 2);
        due.is("nor can it rule", z.by(2), false);
        due.is("nor be played", z.played(2), -2);
        due.is("the tape is empty", z.about(13), 0);
        due.about("40: an IMAGE is no STEP, and another takes its place");
        z.work(0, 1);
        z.image();
        due.is("STEPS", z.about(9), 7);
        z.work(0, 2);
        z.back();
        due.is("WORK", z.ofPerson(0, 4), 1);
        due.is("taken back", z.undo(), 6);
        due.is("WORK ahead of it", z.ofPerson(0, 4), 6);
    }

    /** What was told is told once more, in other words, so that nothing of it can be there by chance. */
    private static void imagesOfLists() {
        due.about("41: MISSING, FORECASTS and OFFERS are so again, each with all that was told of it");
        OwnRain x = Village.full();
        x.image();
        String before = Seen.of(x);
        for (int other = 0; other < 4; other++) {
            x.missing(-1, 0, 0);
            x.forecast(-1, true);
            x.offer(true, 0, 0);
            for (int i = 0; i < 12; i++) {
                x.missing((i + other) % 8, other % 2 == 0 ? 0 : 990, other < 2 ? 999 : 995);
                x.forecast(9 - i % 10, i % 3 != 0);
                x.offer(i % 2 == 1, 30 + i * 3, 99 - i);
            }
            due.is("all is other", Seen.of(x).equals(before), false);
            due.is("back()", x.back(), 999);
            due.is("all is so again", Seen.of(x).equals(before), true);
        }
        due.about("41: the HOURS of what is MISSING are so again");
        int[][] hours = {{979, 979}, {979, 998}, {998, 998}, {985, 990}, {0, 999}, {0, 978}};
        OwnRain y = moving();
        int[] near = new int[6];
        for (int i = 0; i < 6; i++) {
            y.missing(0, hours[i][0], hours[i][1]);
            near[i] = y.near(i);
        }
        y.image();
        for (int from : new int[] {0, 979, 986, 999}) {
            y.missing(-1, 0, 0);
            for (int i = 0; i < 6; i++) {
                y.missing(0, from, 999);
            }
            y.back();
            for (int i = 0; i < 6; i++) {
                due.is("near(" + i + ")", y.near(i), near[i]);
            }
        }
        due.is("the first, where 1 was in HOUR 979 alone", near[0], 2);
        due.is("the third, behind it", near[2], 0);
        due.is("the last, ahead of it", near[5], 0);
    }

    /** At HOUR 999; the second PERSON is with the first until HOUR 979. */
    private static OwnRain moving() {
        OwnRain x = new OwnRain();
        x.field(0, 0, 1);
        x.field(0, 0, 1);
        x.road(0, 1);
        x.person(99, 1, 0, 0);
        x.person(99, 1, 0, 0);
        Village.atHour(x, 980);
        x.go(1, 1);
        Village.atHour(x, 999);
        return x;
    }
}
