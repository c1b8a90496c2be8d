/** Promises 10 and 21: HOURS, the laws they pass by, and the rains that are written down. */
public final class HourTest {
    private static final Due due = new Due();

    public static void main(String[] args) {
        bounds();
        sweating();
        raining();
        taxing();
        growingAndDrying();
        namesAndSums();
        values();
        rainsWrittenDown();
        due.close();
    }

    private static void bounds() {
        due.about("promise 10");
        OwnRain x = new OwnRain();
        due.is("hour(0)", x.hour(0), -1);
        due.is("hour(-1)", x.hour(-1), -1);
        due.is("hour(31)", x.hour(31), -1);
        due.is("hour(greatest)", x.hour(Integer.MAX_VALUE), -1);
        due.is("no hour passed", x.about(2), 0);
        due.is("without anybody", x.hour(30), 0);
        due.is("thirty steps", x.about(9), 30);
        for (int i = 0; i < 32; i++) {
            x.hour(30);
        }
        due.is("990 hours", x.about(2), 990);
        due.is("beyond 999", x.hour(10), -1);
        due.is("none of them passed", x.about(2), 990);
        due.is("up to 999", x.hour(9), 0);
        due.is("999 is the last", x.hour(1), -1);
        due.is("hour 999", x.about(2), 999);
    }

    private static void sweating() {
        due.about("promise 10, sweat");
        OwnRain x = Due.played("rain 0;field 0 needs 0 drowns 9;");
        x.person(99, 1, 0, 0);
        x.person(99, 1, 0, 997);
        x.work(0, 9);
        x.work(1, 9);
        x.hour(1);
        due.is("by work", x.ofPerson(0, 3), 9);
        due.is("999 at most", x.ofPerson(1, 3), 999);
        due.is("no more is sweated", x.about(4), 11);
        due.is("by law at most 99", sweat("sweat 100;"), 99);
        due.is("by law at least 0", sweat("sweat 0-1;"), 0);
        due.is("by law", sweat("sweat full+age;"), 73);
        // Those ahead have sweated, so the second sees what the first has.
        OwnRain y = Due.played("sweat sum cloud end+1;rain 0;field 0 needs 0 drowns 9;one 9 age 1 on 0;one 9 age 1 on 0;one 9 age 1 on 0;hour 1;");
        due.is("the first", y.ofPerson(0, 3), 1);
        due.is("the second", y.ofPerson(1, 3), 2);
        due.is("the third", y.ofPerson(2, 3), 4);
    }

    /** What one of FULL 70 and AGE 3 sweats. */
    private static int sweat(String law) {
        return Due.played(law + "field 0 needs 0 drowns 9;one 70 age 3 on 0;").ofPerson(0, 5);
    }

    private static void raining() {
        due.about("promise 10, rain");
        OwnRain x = new OwnRain();
        x.field(0, 0, 9);
        x.person(10, 1, 0, 9);
        x.person(10, 1, 0, 10);
        x.person(10, 1, 0, 11);
        due.is("below full none", x.hour(1), 2);
        due.is("all of the cloud", x.ofPerson(1, 3), 0);
        due.is("not of the other", x.ofPerson(0, 3), 9);
        due.is("wet", x.ofField(0, 3), 21);
        x.work(0, 1);
        due.is("full by sweat of that hour", x.hour(1), 1);
        due.is("twice in twenty hours", x.hour(20), 2);
        due.is("at most the cloud", rainOf("rain 1000;"), 50);
        due.is("at least nothing", rainOf("rain 0-5;"), 0);
        due.is("by law", rainOf("rain cloud/3;"), 16);
        due.is("as things stand then", rainOf("rain cloud-sum cloud end/2;"), 25);
        OwnRain y = Due.played("rain wet+1;field 0 needs 0 drowns 9;one 1 age 1 on 0;one 1 age 1 on 0;");
        y.work(0, 9);
        y.work(1, 9);
        y.hour(1);
        due.is("those ahead have rained", y.rained(1, 3), 2);
    }

    private static int rainOf(String law) {
        OwnRain x = Due.played(law + "field 0 needs 0 drowns 9;");
        x.person(20, 1, 0, 50);
        due.is("rains by " + law, x.hour(1), 1);
        due.is("what is left by " + law, x.ofPerson(0, 3), 50 - x.rained(0, 3));
        return x.rained(0, 3);
    }

    private static void taxing() {
        due.about("promise 10, tax");
        due.is("without", cistern(""), 0);
        due.is("cut", cistern("tax 3;"), 17);
        due.is("10 at most", cistern("tax 11;"), 59);
        due.is("0 at least", cistern("tax -1;"), 0);
        due.is("of the cloud ahead of raining", cistern("tax cloud/50;"), 5);
        due.is("of the wet ahead of raining", cistern("tax wet;"), 0);
        due.is("of rain 7 with tax 9", cistern("rain 7;tax 9;"), 6);
        due.is("of rain 1 with tax 9", cistern("rain 1;tax 9;"), 0);
    }

    private static int cistern(String law) {
        OwnRain x = Due.played(law + "dries 0;field 0 needs 0 drowns 9;");
        x.person(20, 1, 0, 59);
        x.hour(1);
        due.is("rain is cistern and wet by " + law, x.about(3) + x.ofField(0, 3), x.rained(0, 3));
        return x.about(3);
    }

    private static void growingAndDrying() {
        due.about("promise 10, fields");
        OwnRain x = new OwnRain();
        x.field(3, 10, 20);
        x.person(1, 1, 0, 22);
        // WET ahead of drying: 22, 19, 16, 13, 10, 7, 4, 1, 0.
        x.hour(9);
        due.is("grown", x.ofField(0, 4), 4);
        due.is("flooded", x.ofField(0, 5), 1);
        due.is("no more dries than is wet", x.about(5), 22);
        due.is("dry", x.ofField(0, 3), 0);
        due.is("at drowns it is flooded", closed(20, 5), 1);
        due.is("below drowns it has grown", closed(19, 4), 1);
        due.is("at needs it has grown", closed(10, 4), 1);
        due.is("below needs it hasn't", closed(9, 4), 0);
        due.is("dries at least 0", dried("dries -5;"), 0);
        due.is("dries at most what is wet", dried("dries 9999;"), 30);
        due.is("dries by law", dried("dries heat+wet/3+here;"), 13);
        due.is("dries by those there", dried("dries sum age end+hour;"), 7);
    }

    private static int closed(int wet, int what) {
        OwnRain x = new OwnRain();
        x.field(3, 10, 20);
        x.person(1, 1, 0, wet);
        x.hour(1);
        return x.ofField(0, what);
    }

    private static int dried(String law) {
        OwnRain x = Due.played(law + "field 3 needs 0 drowns 99;");
        x.field(3, 0, 1);
        x.person(1, 7, 0, 30);
        x.person(99, 9, 1, 0);
        x.hour(1);
        return x.about(5);
    }

    private static void namesAndSums() {
        due.about("promise 10, names");
        String world = "field 2 needs 0 drowns 9;field 7 needs 0 drowns 9;";
        String[] names = {"who", "age", "full", "cloud", "work", "old", "here", "heat", "wet", "hour"};
        int[] want = {2, 60, 88, 33, 6, 1, 1, 7, 5, 1};
        for (int i = 0; i < names.length; i++) {
            OwnRain x = Due.played("sweat " + names[i] + ";rain cloud;dries 0;" + world);
            x.person(5, 59, 1, 12);
            x.by(-1);
            x.hour(1);
            x.person(99, 60, 0, 0);
            x.person(88, 60, 1, 33);
            x.work(2, 6);
            x.by(0);
            due.is(names[i], x.ofPerson(2, 5), want[i]);
            due.is(names[i] + " of the first", x.ofPerson(0, 5), ofTheFirst(names[i]));
        }
        OwnRain y = Due.played("sweat count who>0 and age<50 or old=1 end*10+sum cloud end;" + world);
        y.person(99, 70, 0, 1);
        y.person(99, 20, 0, 2);
        y.person(99, 60, 1, 4);
        y.person(99, 55, 0, 8);
        due.is("of those on that field", y.ofPerson(0, 5), 31);
        due.is("of those on the other", y.ofPerson(2, 5), 14);
        OwnRain z = Due.played("sweat sum sum who end*age end;" + world);
        z.person(99, 3, 0, 0);
        z.person(99, 4, 0, 0);
        z.person(99, 5, 0, 0);
        due.is("a sum in a sum", z.ofPerson(1, 5), 36);
        OwnRain deep = Due.played("sweat sum sum sum sum sum sum sum sum 1 end end end end end end end end/9999/20;" + world);
        for (int p = 0; p < 8; p++) {
            deep.person(99, 3, 0, 0);
        }
        due.is("eight sums are bounded at each step", deep.ofPerson(1, 5), 5);
    }

    private static int ofTheFirst(String name) {
        switch (name) {
            case "age":
                return 59;
            case "full":
            case "wet":
                return 5;
            case "here":
                return 1;
            case "heat":
                return 7;
            case "hour":
                return 1;
            default:
                return 0;
        }
    }

    private static void values() {
        due.about("promise 10, values");
        due.is("from the left", sweat("sweat 90-20-5;"), 65);
        due.is("products first", sweat("sweat 1+2*3;"), 7);
        due.is("from the left in products", sweat("sweat 100/7*2;"), 28);
        due.is("cut towards 0", sweat("sweat 50+-7/2;"), 47);
        due.is("cut towards 0 by a negative", sweat("sweat 50+7/-2;"), 47);
        due.is("by 0", sweat("sweat 5+9/(1-1);"), 5);
        due.is("minus binds one", sweat("sweat 10+-2*3;"), 4);
        due.is("parentheses", sweat("sweat (1+2)*3;"), 9);
        due.is("above a million", sweat("sweat 9999*9999/5000/4;"), 50);
        due.is("below", sweat("sweat -(9999*9999*-1)/5000/4;"), 50);
        due.is("below, negative", sweat("sweat 70+9999*-9999/5000/4;"), 20);
        due.is("each step", sweat("sweat 1000*1000+5-9999*100-99;"), 1);
        due.is("just a million", sweat("sweat 1000*1000-9999*100-99;"), 1);
        due.is("each step down", sweat("sweat -1000*1000-5+9999*100+105;"), 5);
        due.is("sums, too", sweat("sweat sum 1000*1000 end+sum 1 end-9999*100-99;"), 1);
        due.is("lesser", sweat("sweat count 1<2 end+count 2<2 end*10+count 3<2 end*20;"), 1);
        due.is("at most", sweat("sweat count 1<=2 end+count 2<=2 end*10+count 3<=2 end*20;"), 11);
        due.is("greater", sweat("sweat count 1>2 end+count 2>2 end*10+count 3>2 end*20;"), 20);
        due.is("at least", sweat("sweat count 1>=2 end+count 2>=2 end*10+count 3>=2 end*20;"), 30);
        due.is("like", sweat("sweat count 1=2 end+count 2=2 end*10;"), 10);
        due.is("unlike", sweat("sweat count 1#2 end+count 2#2 end*10;"), 1);
        due.is("and binds more than or", sweat("sweat count 1=1 or 1=2 and 1=2 end;"), 1);
        due.is("and", sweat("sweat count 1=1 and 1=2 end+count 1=1 and 2=2 end*10;"), 10);
        due.is("or", sweat("sweat count 1=0 or 1=2 end+count 1=2 or 2=2 end*10;"), 10);
        due.is("not binds an ask", sweat("sweat count not 1=2 or 1=1 end+count not 1=1 and 1=2 end*10;"), 1);
        due.is("not not", sweat("sweat count not not 1=1 end;"), 1);
    }

    private static void rainsWrittenDown() {
        due.about("promise 21");
        OwnRain x = new OwnRain();
        x.field(0, 0, 9);
        x.field(0, 0, 9);
        due.is("none", x.rained(-1, 0), 0);
        due.is("no first", x.rained(0, 0), -2);
        x.person(1, 1, 0, 999);
        x.person(3, 1, 1, 0);
        x.work(0, 1);
        x.work(1, 1);
        x.hour(3);
        due.is("four", x.rained(-1, 9), 4);
        int[][] want = {{0, 0, 0, 999}, {0, 1, 0, 1}, {0, 2, 0, 1}, {1, 2, 1, 3}};
        for (int i = 0; i < 4; i++) {
            for (int what = 0; what < 4; what++) {
                due.is("rained(" + i + ", " + what + ")", x.rained(i, what), want[i][what]);
            }
        }
        due.is("rained(4, 0)", x.rained(4, 0), -2);
        due.is("rained(0, 4)", x.rained(0, 4), -2);
        due.is("rained(0, -1)", x.rained(0, -1), -2);
        due.is("rained(-2, 0)", x.rained(-2, 0), -2);
        x.hour(30);
        due.is("the latest 40", x.rained(-1, 0), 40);
        // 33 HOURS brought 33 rains of the first and 11 of the other, of which 4 are forgotten.
        due.is("the eldest's hour", x.rained(0, 1), 3);
        due.is("the eldest's person", x.rained(0, 0), 0);
        due.is("the latest's hour", x.rained(39, 1), 32);
        due.is("the latest's person", x.rained(39, 0), 1);
        due.is("the latest's field", x.rained(39, 2), 1);
        OwnRain dry = Due.played("rain 0;field 0 needs 0 drowns 9;");
        dry.person(5, 1, 0, 5);
        due.is("rain of 0 is rain", dry.hour(2), 2);
        due.is("and is written down", dry.rained(1, 3), 0);
        OwnRain late = new OwnRain();
        for (int f = 0; f < 6; f++) {
            late.field(0, 0, 9);
        }
        for (int p = 0; p < 8; p++) {
            late.person(99, 1, 5, p == 7 ? 97 : 0);
        }
        for (int i = 0; i < 33; i++) {
            late.hour(30);
        }
        late.work(7, 2);
        late.hour(9);
        due.is("late: the last person", late.rained(0, 0), 7);
        due.is("late: the hour", late.rained(0, 1), 990);
        due.is("late: the last field", late.rained(0, 2), 5);
        due.is("late: drops", late.rained(0, 3), 99);
    }
}
