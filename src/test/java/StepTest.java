/** Promises 11 to 18 and 39 to 41: what is done by hand, by TEXTS and by draws, taken back, and imaged. */
public final class StepTest {
    private static final Due due = new Due();

    public static void main(String[] args) {
        working();
        going();
        shaking();
        sharing();
        stealing();
        pouring();
        playing();
        playingHours();
        years();
        yearsDrawByDraw();
        takingBack();
        takingBackWhatWasToldSince();
        waterIsKept();
        images();
        imagesOfWhatIsOverwritten();
        due.close();
    }

    /** Two FIELDS with a ROAD, a third without; three PEOPLE on the first, one on the second. */
    private static OwnRain village() {
        OwnRain x = new OwnRain();
        x.field(1, 5, 50);
        x.field(2, 6, 60);
        x.field(3, 7, 70);
        x.road(0, 1);
        x.person(90, 20, 0, 10);
        x.person(90, 70, 0, 21);
        x.person(90, 40, 0, 998);
        x.person(90, 40, 1, 7);
        return x;
    }

    private static void working() {
        due.about("promise 11");
        OwnRain x = village();
        due.is("work(0, 0) already", x.work(0, 0), false);
        due.is("work(0, 9)", x.work(0, 9), true);
        due.is("it works", x.ofPerson(0, 4), 9);
        due.is("work(0, 9) again", x.work(0, 9), false);
        due.is("work(0, 10)", x.work(0, 10), false);
        due.is("work(0, -1)", x.work(0, -1), false);
        due.is("work(4, 1)", x.work(4, 1), false);
        due.is("work(-1, 1)", x.work(-1, 1), false);
        due.is("one step", x.about(9), 1);
    }

    private static void going() {
        due.about("promise 12");
        OwnRain x = village();
        due.is("go(0, 0) where it is", x.go(0, 0), false);
        due.is("go(0, 2) without a road", x.go(0, 2), false);
        due.is("go(0, 3)", x.go(0, 3), false);
        due.is("go(0, -1)", x.go(0, -1), false);
        due.is("go(4, 1)", x.go(4, 1), false);
        due.is("go(-1, 1)", x.go(-1, 1), false);
        due.is("no step", x.about(9), 0);
        due.is("go(0, 1)", x.go(0, 1), true);
        due.is("it is there", x.ofPerson(0, 2), 1);
        due.is("and back", x.go(0, 0), true);
        due.is("two steps", x.about(9), 2);
    }

    private static void shaking() {
        due.about("promise 13");
        OwnRain x = village();
        due.is("with itself", x.shake(0, 0), -1);
        due.is("on another field", x.shake(0, 3), -1);
        due.is("with none", x.shake(0, 4), -1);
        due.is("none", x.shake(-1, 0), -1);
        due.is("no step", x.about(9), 0);
        due.is("half, cut", x.shake(0, 1), 15);
        due.is("the rest", x.ofPerson(1, 3), 16);
        due.is("the other way round", x.shake(1, 0), 15);
        due.is("the rest again", x.ofPerson(0, 3), 16);
        due.is("two steps", x.about(9), 2);
    }

    private static void sharing() {
        due.about("promise 13, share");
        due.is("by law", share("share 4;", 10, 20), 4);
        due.is("0 at least", share("share -4;", 10, 20), 0);
        due.is("both at most", share("share 400;", 10, 20), 30);
        due.is("both", share("share both/3;", 10, 20), 10);
        due.is("the names are the one's", share("share cloud+age+full+who+old+work;", 10, 30), 10 + 1 + 2);
        due.is("here, heat, wet, hour", share("share here+heat*2+wet+hour;", 10, 20), 8);
        due.is("sums of all there", share("share sum cloud end-1;", 10, 20), 29);
        due.is("both in a sum", share("share sum both end/4;", 10, 20), 15);
        due.is("neither above 999: the one", share("share both;", 999, 5), 999);
        due.is("neither above 999: the other", share("share 0;", 999, 5), 5);
        due.is("both full", share("share 0;", 999, 999), 999);
        due.is("half is fine", share("", 999, 998), 998);
    }

    private static int share(String law, int one, int other) {
        OwnRain x = Due.played(law + "field 4 needs 0 drowns 9;");
        x.person(2, 1, 0, one);
        x.person(50, 99, 0, other);
        int share = x.shake(0, 1);
        due.is("together by " + law, x.ofPerson(0, 3) + x.ofPerson(1, 3), one + other);
        due.is("the one's by " + law, x.ofPerson(0, 3), share);
        return share;
    }

    private static void stealing() {
        due.about("promise 14");
        OwnRain x = village();
        due.is("0 drops", x.steal(0, 1, 0), -1);
        due.is("-1 drops", x.steal(0, 1, -1), -1);
        due.is("100 drops", x.steal(0, 2, 100), -1);
        due.is("more than there is", x.steal(0, 1, 22), -1);
        due.is("from itself", x.steal(0, 0, 1), -1);
        due.is("on another field", x.steal(0, 3, 1), -1);
        due.is("from none", x.steal(0, 4, 1), -1);
        due.is("by none", x.steal(-1, 0, 1), -1);
        due.is("above 999", x.steal(2, 0, 2), -1);
        due.is("no step", x.about(9), 0);
        due.is("up to 999", x.steal(2, 0, 1), 999);
        due.is("all there is", x.steal(0, 1, 21), 30);
        due.is("nothing is left", x.ofPerson(1, 3), 0);
        due.is("99", x.steal(1, 2, 99), 99);
        due.is("what is left", x.ofPerson(2, 3), 900);
        due.is("three steps", x.about(9), 3);
    }

    private static void pouring() {
        due.about("promise 15");
        OwnRain x = Due.played("tax 10;field 0 needs 0 drowns 9;field 0 needs 0 drowns 9;");
        x.person(1, 1, 0, 999);
        x.person(1, 1, 0, 6);
        due.is("an empty cistern", x.pour(1, 0), -1);
        x.hour(1);
        due.is("the cistern", x.about(3), 1005);
        due.is("pour(0, 0)", x.pour(0, 0), -1);
        due.is("pour(-1, 0)", x.pour(-1, 0), -1);
        due.is("pour(1000, 0)", x.pour(1000, 0), -1);
        due.is("pour(1, 2)", x.pour(1, 2), -1);
        due.is("pour(1, -1)", x.pour(1, -1), -1);
        due.is("one step", x.about(9), 1);
        due.is("pour(999, 1)", x.pour(999, 1), 999);
        due.is("more than there is", x.pour(7, 1), -1);
        due.is("the rest", x.pour(6, 1), 1005);
        due.is("an empty cistern again", x.about(3), 0);
        due.is("three steps", x.about(9), 3);
    }

    private static void playing() {
        due.about("promise 16");
        OwnRain x = new OwnRain();
        due.is("played(0) of none", x.played(0), -2);
        due.is("played(-1)", x.played(-1), -2);
        Due.read(x, "tax 9;sweat 5;");
        due.is("laws alone", x.played(0), -1);
        due.is("no text rules by that", x.about(8), -1);
        Due.read(x, "field 1 needs 2 drowns 300;rain 1;field 4 needs 5 drowns 6;road 0 to 1;one 7 age 8 on 1;one 9 age 10 on 0;work 1 by 3;hour 2;go 0 to 0;");
        due.is("all is done", x.played(1), -1);
        due.is("its needs", x.ofField(0, 1), 2);
        due.is("its heat", x.ofField(1, 0), 4);
        due.is("its drowns", x.ofField(0, 2), 300);
        due.is("a full", x.ofPerson(0, 0), 7);
        due.is("an age", x.ofPerson(0, 1), 8);
        due.is("it went", x.ofPerson(0, 2), 0);
        due.is("a cloud", x.ofPerson(1, 3), 6);
        due.is("the law didn't rule", x.ofPerson(1, 5), 3);
        due.is("the hours", x.about(2), 2);
        due.is("steps: work, two hours, go", x.about(9), 4);
        Due.read(x, "shake 1 to 0;steal 1 from 0 by 2;tax 0;steal 0 from 1 by 6;work 0 by 1;");
        due.is("the fourth can't be", x.played(2), 3);
        due.is("what was done stays", x.ofPerson(1, 3), 5);
        due.is("what is behind isn't done", x.ofPerson(0, 4), 0);
        due.is("two more steps", x.about(9), 6);
        due.is("played(3)", x.played(3), -2);
        due.is("again: roads and fields", x.played(1), 3);
        due.is("two fields more", x.about(0), 4);
        String[] cant = {"field 1 needs 2 drowns 2;", "road 0 to 1;", "road 0 to 5;", "one 1 age 1 on 5;", "work 0 by 0;",
            "work 7 by 1;", "go 0 to 2;", "go 7 to 1;", "shake 0 to 0;", "shake 0 to 7;", "steal 0 from 0 by 1;", "pour 1 on 0;", "pour 1 on 5;"};
        for (String clause : cant) {
            OwnRain y = village();
            Due.read(y, "tax 1;work 0 by 1;work 0 by 0;" + clause + "hour 1;");
            due.is(clause, y.played(0), 3);
            due.is(clause + " ends it", y.about(2), 0);
        }
        OwnRain z = Due.played("tax 10;field 1 needs 2 drowns 99;one 5 age 1 on 0;work 0 by 9;hour 1;pour 4 on 0;");
        due.is("poured", z.ofField(0, 3), 4);
        due.is("a new one's cloud is 0", z.about(4), 9);
        due.is("24 clauses", Due.played("hour 1;".repeat(24)).about(2), 24);
    }

    private static void playingHours() {
        due.about("promise 16, hours");
        OwnRain x = new OwnRain();
        for (int i = 0; i < 33; i++) {
            x.hour(30);
        }
        Due.read(x, "hour 5;hour 10;hour 1;");
        due.is("those that can are", x.played(0), 1);
        due.is("up to 999", x.about(2), 999);
        due.is("none can", x.played(0), 0);
        due.is("taken back one by one", x.undo(), 29);
        due.is("hour 998", x.about(2), 998);
    }

    private static void years() {
        due.about("promise 17");
        OwnRain x = new OwnRain();
        due.is("without fields", x.year(0, 1), -1);
        x.field(1, 1, 9);
        due.is("without people", x.year(0, 1), -1);
        due.is("x stays", x.about(6), 37);
        x.person(9, 1, 0, 0);
        due.is("year(-1, 1)", x.year(-1, 1), -1);
        due.is("year(10000, 1)", x.year(10000, 1), -1);
        due.is("year(0, 0)", x.year(0, 0), -1);
        due.is("year(0, 31)", x.year(0, 31), -1);
        due.is("no step", x.about(9), 0);
        due.is("year(9999, 30)", x.year(9999, 30) >= 0, true);
        due.is("one step", x.about(9), 1);
        due.is("taken back", x.undo(), 0);
        due.is("with its hours", x.about(2), 0);
        due.is("and x", x.about(6), 37);
        for (int i = 0; i < 33; i++) {
            x.hour(30);
        }
        x.hour(9);
        int x0 = 37 + 2 * 3;
        for (int i = 0; i < 2; i++) {
            x0 = (x0 * 233 + 131) % 30187;
        }
        due.is("999 stays", x.year(3, 1), 0);
        due.is("hour 999", x.about(2), 999);
        due.is("but x is anew", x.about(6), x0);
    }

    /** Each seed's first draw, told anew from the document's words. */
    private static void yearsDrawByDraw() {
        due.about("promise 17, draws");
        int[] seen = new int[6];
        for (int seed = 0; seed < 400; seed++) {
            OwnRain x = village();
            x.steal(0, 1, 21);
            x.work(2, 9);
            int first = seed * 2 + 37;
            int person = first % 4;
            int drawn = (first * 233 + 131) % 30187;
            int[] cloud = {31, 0, 998, 7};
            int[] at = {0, 0, 0, 1};
            int[] work = {0, 0, 9, 0};
            int rains = 0;
            int other = drawn % 4;
            boolean meet = person != other && at[person] == at[other];
            seen[drawn % 6]++;
            switch (drawn % 6) {
                case 0:
                    work[person] = drawn % 10;
                    break;
                case 1:
                    if (drawn % 3 == 1 && at[person] == 0 || drawn % 3 == 0 && at[person] == 1) {
                        at[person] = drawn % 3;
                    }
                    break;
                case 2:
                    if (meet) {
                        int both = cloud[person] + cloud[other];
                        cloud[person] = both / 2;
                        cloud[other] = both - both / 2;
                    }
                    break;
                case 3:
                    int drops = Math.min(1 + drawn % 9, cloud[other]);
                    if (meet && drops > 0 && cloud[person] + drops <= 999) {
                        cloud[person] += drops;
                        cloud[other] -= drops;
                    }
                    break;
                default:
                    cloud[2] = 0;
                    rains = 1;
                    break;
            }
            due.is("rains of seed " + seed, x.year(seed, 1), rains);
            for (int p = 0; p < 4; p++) {
                due.is("cloud of " + p + ", seed " + seed, x.ofPerson(p, 3), cloud[p]);
                due.is("field of " + p + ", seed " + seed, x.ofPerson(p, 2), at[p]);
                due.is("work of " + p + ", seed " + seed, x.ofPerson(p, 4), work[p]);
            }
            due.is("hour, seed " + seed, x.about(2), rains);
            due.is("x, seed " + seed, x.about(6), (drawn * 233 + 131) % 30187);
        }
        for (int what = 0; what < 6; what++) {
            due.is("seen of " + what, seen[what] > 10, true);
        }
    }

    private static void takingBack() {
        due.about("promise 18");
        OwnRain x = village();
        due.is("none", x.undo(), -1);
        x.work(0, 9);
        x.go(0, 1);
        x.go(0, 0);
        x.shake(0, 1);
        x.steal(0, 1, 3);
        x.hour(2);
        due.is("hours", x.about(2), 2);
        due.is("the rain", x.rained(-1, 0), 1);
        due.is("an hour", x.undo(), 6);
        due.is("one hour is left", x.about(2), 1);
        due.is("where it was in it", x.ofPerson(0, 11), -1);
        due.is("another", x.undo(), 5);
        due.is("no rain", x.rained(-1, 0), 0);
        due.is("nothing is wet", x.ofField(0, 3), 0);
        due.is("nothing is sweated", x.about(4), 0);
        due.is("nothing has dried", x.about(5), 0);
        due.is("nor grown or drowned", x.ofField(0, 4) + x.ofField(0, 5), 0);
        due.is("the theft was", x.ofPerson(0, 3), 18);
        due.is("the theft", x.undo(), 4);
        due.is("the cloud", x.ofPerson(0, 3), 15);
        due.is("the shake", x.undo(), 3);
        due.is("the cloud ahead of it", x.ofPerson(0, 3), 10);
        due.is("the way back", x.undo(), 2);
        due.is("it is away", x.ofPerson(0, 2), 1);
        due.is("the way", x.undo(), 1);
        due.is("the work", x.undo(), 0);
        due.is("no work", x.ofPerson(0, 4), 0);
        due.is("none more", x.undo(), -1);
        for (int i = 0; i < 35; i++) {
            x.work(0, 1 + i % 2);
        }
        due.is("the latest 30", x.about(9), 30);
        for (int i = 29; i >= 0; i--) {
            due.is("down to " + i, x.undo(), i);
        }
        due.is("no further", x.undo(), -1);
        due.is("five stay", x.ofPerson(0, 4), 1);
        due.is("a new one", x.work(0, 7), true);
        due.is("and back", x.undo(), 0);
        OwnRain y = Due.played("tax 10;field 0 needs 0 drowns 9;one 1 age 1 on 0;work 0 by 9;hour 1;pour 5 on 0;");
        y.undo();
        due.is("the cistern again", y.about(3), 9);
        due.is("dry again", y.ofField(0, 3), 0);
    }

    private static void takingBackWhatWasToldSince() {
        due.about("promise 18, told since");
        OwnRain x = new OwnRain();
        x.field(0, 0, 99);
        x.person(99, 1, 0, 50);
        x.hour(3);
        x.field(1, 2, 3);
        x.road(1, 0);
        x.person(10, 77, 1, 40);
        x.work(1, 4);
        x.hour(1);
        x.go(1, 0);
        x.work(1, 2);
        x.missing(1, 0, 5);
        due.is("its field is wet", x.ofField(1, 3), 43);
        due.is("steps: 3 hours, work, hour, go, work", x.about(9), 7);
        for (int i = 6; i >= 2; i--) {
            due.is("back to " + i, x.undo(), i);
        }
        due.is("hour 2", x.about(2), 2);
        due.is("the field stays", x.about(0), 2);
        due.is("as it was told", x.ofField(1, 2), 3);
        due.is("dry", x.ofField(1, 3), 0);
        due.is("not drowned", x.ofField(1, 5), 0);
        due.is("the road stays", x.ofField(0, 7), 2);
        due.is("the person stays", x.about(1), 2);
        due.is("its full", x.ofPerson(1, 0), 10);
        due.is("its age", x.ofPerson(1, 1), 77);
        due.is("its field", x.ofPerson(1, 2), 1);
        due.is("its cloud", x.ofPerson(1, 3), 40);
        due.is("its work", x.ofPerson(1, 4), 0);
        due.is("it was nowhere", x.ofPerson(1, 11), -1);
        due.is("the other was there", x.ofPerson(0, 11), 0);
        due.is("what is missing stays", x.about(10), 1);
        due.is("water", x.water(), 90);
        x.hour(1);
        due.is("it is where it was told", x.ofPerson(1, 12), 1);
        due.is("and rains", x.rained(0, 3), 40);
    }

    private static void waterIsKept() {
        due.about("promise 39");
        OwnRain x = Due.played("sweat 3+work;rain cloud/2+1;tax 1+old*5;dries heat*count full>0 end;share both/3;field 3 needs 4 drowns 50;field 1 needs 0 drowns 9;road 0 to 1;");
        due.is("nothing", x.water(), 0);
        x.person(20, 70, 0, 123);
        x.person(9, 20, 0, 456);
        x.person(5, 65, 1, 7);
        due.is("what was told", x.water(), 586);
        for (int i = 0; i < 40; i++) {
            x.year(i * 7, 30);
            x.pour(1 + i % 5, i % 2);
            due.is("after year " + i, x.water(), 586);
        }
        due.is("much was sweated", x.about(4) > 100, true);
        due.is("much has dried", x.about(5) > 100, true);
        due.is("the cistern has some", x.about(3) > 10, true);
        x.person(9, 9, 1, 14);
        due.is("with a new cloud", x.water(), 600);
        x.undo();
        x.undo();
        due.is("it was told all the same", x.water(), 600);
    }

    private static void images() {
        due.about("promise 40");
        OwnRain x = village();
        x.hour(2);
        Due.read(x, "sweat 2;");
        x.by(0);
        x.missing(0, 0, 1);
        x.forecast(4, true);
        x.offer(true, 5, 6);
        x.work(0, 5);
        Due.load(x, "tax");
        due.is("the hour", x.image(), 2);
        due.about("promise 41");
        String before = Seen.of(x);
        x.field(0, 0, 1);
        x.road(2, 3);
        x.person(1, 1, 3, 1);
        x.undo();
        x.undo();
        x.year(5, 30);
        Due.read(x, "rain 1;");
        x.by(1);
        x.missing(-1, 0, 0);
        x.forecast(5, false);
        x.forecast(6, false);
        x.offer(true, 0, 0);
        x.hour(30);
        Due.load(x, "tax tax");
        due.is("all is other", before.equals(Seen.of(x)), false);
        due.is("the hour", x.back(), 2);
        due.is("all is so again", Seen.of(x).equals(before), true);
        due.is("but the tape", x.about(13), 7);
        due.is("one text", x.about(7), 1);
        due.is("a new one", x.text(), -1);
        due.is("the latest fault", x.fault(1), 4);
        due.is("steps, too", x.undo(), 2);
        due.is("as then", x.ofPerson(0, 4), 0);
        due.is("steps", x.undo(), 1);
        due.is("hour 1", x.about(2), 1);
        due.is("it stays", x.back(), 2);
        due.is("all is so once more", Seen.of(x).equals(before), true);
        due.is("a text in place of the one that was", Due.read(x, "sweat 9;"), 1);
        x.by(1);
        due.is("it rules", x.ofPerson(0, 5), 9);
        x.back();
        due.is("the first rules again", x.ofPerson(0, 5), 2);
        due.about("promise 40");
        x.hour(5);
        due.is("a new one", x.image(), 7);
        x.hour(1);
        due.is("back to that", x.back(), 7);
    }

    /** What can be told anew in the place of what the image has: lists, and the STEPS' own row. */
    private static void imagesOfWhatIsOverwritten() {
        due.about("promise 41, overwritten");
        OwnRain x = new OwnRain();
        x.field(0, 0, 9);
        x.field(0, 0, 9);
        x.road(0, 1);
        x.person(99, 1, 0, 0);
        x.work(0, 1);
        x.person(99, 1, 1, 40);
        x.work(1, 5);
        x.hour(1);
        x.go(0, 1);
        x.hour(1);
        x.missing(0, 1, 1);
        x.forecast(3, true);
        x.offer(true, 20, 7);
        x.offer(false, 10, 9);
        x.image();
        String before = Seen.of(x);
        x.missing(-1, 0, 0);
        x.missing(1, 0, 0);
        x.forecast(-1, false);
        x.forecast(8, false);
        x.offer(true, 0, 0);
        x.offer(false, 30, 6);
        x.offer(true, 50, 5);
        for (int i = 0; i < 35; i++) {
            x.work(0, 2 + i % 2);
        }
        x.back();
        due.is("all is so again", Seen.of(x).equals(before), true);
        due.is("near", x.near(0), 2);
        due.is("misses", x.errors(4, true), 1);
        due.is("traded", x.market(15), 7);
        for (int i = 4; i >= 0; i--) {
            due.is("taken back to " + i, x.undo(), i);
        }
        due.is("one told since is as it was told", x.ofPerson(1, 3), 40);
        due.is("where it was told", x.ofPerson(1, 2), 1);
        due.is("the first works not", x.ofPerson(0, 4), 0);
    }
}
