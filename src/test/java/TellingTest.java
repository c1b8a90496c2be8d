/** Promises 1 to 4, 19, 20, 42: what is told of FIELDS, ROADS and PEOPLE, and what is asked of them. */
public final class TellingTest {
    private static final Due due = new Due();

    public static void main(String[] args) {
        aNewObject();
        fields();
        roads();
        people();
        ofField();
        ofPerson();
        whereSomebodyWas();
        about();
        due.close();
    }

    private static void aNewObject() {
        due.about("promise 1");
        OwnRain x = new OwnRain();
        int[] at = {0, 0, 0, 0, 0, 0, 37, 0, -1, 0, 0, 0, 0, 0};
        for (int what = 0; what < at.length; what++) {
            due.is("about(" + what + ")", x.about(what), at[what]);
        }
        due.is("rained", x.rained(-1, 0), 0);
        x.field(1, 2, 3);
        x.person(1, 2, 0, 4);
        x.hour(3);
        due.is("back to the first image", x.back(), 0);
        due.is("no field then", x.about(0), 0);
        due.is("no person then", x.about(1), 0);
        due.is("no step then", x.undo(), -1);
    }

    private static void fields() {
        due.about("promise 2");
        OwnRain x = new OwnRain();
        int[][] wrong = {{-1, 1, 2}, {10, 1, 2}, {0, -1, 2}, {0, 1000, 1001}, {0, 0, 0}, {0, 5, 5},
            {0, 6, 5}, {0, 1, 1000}, {0, -5, -4}, {Integer.MAX_VALUE, 0, 1}, {0, Integer.MIN_VALUE, 1}};
        for (int[] f : wrong) {
            due.is("field(" + f[0] + ", " + f[1] + ", " + f[2] + ")", x.field(f[0], f[1], f[2]), -1);
        }
        due.is("least", x.field(0, 0, 1), 0);
        due.is("greatest", x.field(9, 998, 999), 1);
        due.is("needs 999 can't be", x.field(9, 999, 999), -1);
        for (int i = 2; i < 6; i++) {
            due.is("field " + i, x.field(i, i, i + 1), i);
        }
        due.is("a seventh", x.field(1, 1, 2), -1);
        due.is("how many", x.about(0), 6);
    }

    private static void roads() {
        due.about("promise 3");
        OwnRain x = new OwnRain();
        due.is("without fields", x.road(0, 1), false);
        x.field(1, 1, 2);
        x.field(1, 1, 2);
        x.field(1, 1, 2);
        due.is("to itself", x.road(1, 1), false);
        due.is("to none", x.road(0, 3), false);
        due.is("from none", x.road(-1, 0), false);
        due.is("far", x.road(Integer.MAX_VALUE, 0), false);
        due.is("one", x.road(2, 0), true);
        due.is("again", x.road(2, 0), false);
        due.is("the other way", x.road(0, 2), false);
        due.is("another", x.road(1, 2), true);
        due.is("is no step", x.undo(), -1);
    }

    private static void people() {
        due.about("promise 4");
        OwnRain x = new OwnRain();
        due.is("without fields", x.person(1, 1, 0, 0), -1);
        x.field(1, 1, 2);
        int[][] wrong = {{0, 0, 0, 0}, {100, 0, 0, 0}, {1, -1, 0, 0}, {1, 100, 0, 0}, {1, 0, -1, 0},
            {1, 0, 1, 0}, {1, 0, 0, -1}, {1, 0, 0, 1000}};
        for (int[] p : wrong) {
            due.is("person(" + p[0] + ", " + p[1] + ", " + p[2] + ", " + p[3] + ")",
                    x.person(p[0], p[1], p[2], p[3]), -1);
        }
        due.is("least", x.person(1, 0, 0, 0), 0);
        due.is("greatest", x.person(99, 99, 0, 999), 1);
        for (int i = 2; i < 8; i++) {
            due.is("person " + i, x.person(i, i, 0, i), i);
        }
        due.is("a ninth", x.person(1, 1, 0, 0), -1);
        due.is("how many", x.about(1), 8);
    }

    private static void ofField() {
        due.about("promise 19");
        OwnRain x = new OwnRain();
        x.field(4, 5, 60);
        x.field(1, 0, 3);
        x.field(0, 9, 10);
        x.road(0, 2);
        x.road(0, 1);
        x.person(10, 1, 0, 7);
        x.person(10, 1, 1, 12);
        x.person(10, 1, 0, 30);
        x.hour(1);
        int[][] want = {{4, 5, 60, 26, 1, 0, 5, 6}, {1, 0, 3, 11, 0, 1, 2, 1}, {0, 9, 10, 0, 0, 0, 0, 1}};
        for (int f = 0; f < 3; f++) {
            for (int what = 0; what < 8; what++) {
                due.is("ofField(" + f + ", " + what + ")", x.ofField(f, what), want[f][what]);
            }
        }
        due.is("ofField(0, 8)", x.ofField(0, 8), -1);
        due.is("ofField(0, -1)", x.ofField(0, -1), -1);
        due.is("ofField(3, 0)", x.ofField(3, 0), -1);
        due.is("ofField(-1, 0)", x.ofField(-1, 0), -1);
    }

    private static void ofPerson() {
        due.about("promise 20");
        OwnRain x = Due.played("sweat count cloud>3 end*10+work;field 1 needs 0 drowns 9;");
        x.person(40, 61, 0, 3);
        x.person(90, 20, 0, 997);
        x.person(80, 30, 0, 4);
        x.work(0, 7);
        int[] want = {40, 61, 0, 3, 7, 27};
        for (int what = 0; what < want.length; what++) {
            due.is("ofPerson(0, " + what + ")", x.ofPerson(0, what), want[what]);
        }
        due.is("no more than its cloud takes", x.ofPerson(1, 5), 2);
        due.is("as if nobody ahead had sweated", x.ofPerson(2, 5), 20);
        for (int what = 6; what < 10; what++) {
            due.is("ofPerson(0, " + what + ")", x.ofPerson(0, what), -2);
        }
        due.is("ofPerson(0, -1)", x.ofPerson(0, -1), -2);
        due.is("ofPerson(3, 0)", x.ofPerson(3, 0), -2);
        due.is("ofPerson(-1, 0)", x.ofPerson(-1, 0), -2);
        due.is("ofPerson(0, 1009)", x.ofPerson(0, 1009), -1);
        due.is("ofPerson(0, 1010)", x.ofPerson(0, 1010), -2);
        due.is("ofPerson(0, greatest)", x.ofPerson(0, Integer.MAX_VALUE), -2);
        due.is("ofPerson(0, least)", x.ofPerson(0, Integer.MIN_VALUE), -2);
    }

    private static void whereSomebodyWas() {
        due.about("promise 20, where");
        OwnRain x = new OwnRain();
        x.field(0, 0, 1);
        x.field(0, 0, 1);
        x.road(0, 1);
        x.person(99, 1, 0, 0);
        x.hour(2);
        x.go(0, 1);
        x.hour(1);
        x.person(99, 1, 0, 0);
        x.hour(1);
        int[] first = {0, 0, 1, 1, -1};
        int[] second = {-1, -1, -1, 0, -1};
        for (int h = 0; h < 5; h++) {
            due.is("the first in hour " + h, x.ofPerson(0, 10 + h), first[h]);
            due.is("the second in hour " + h, x.ofPerson(1, 10 + h), second[h]);
        }
        x.hour(18);
        due.is("22 hours later hour 1 is not kept", x.ofPerson(0, 11), -1);
        due.is("but hour 2", x.ofPerson(0, 12), 1);
        due.is("and hour 21", x.ofPerson(1, 31), 0);
        due.is("not hour 22", x.ofPerson(1, 32), -1);
    }

    private static void about() {
        due.about("promise 42");
        OwnRain x = new OwnRain();
        x.field(1, 1, 9);
        x.field(2, 1, 9);
        x.person(3, 1, 0, 9);
        Due.read(x, "tax 5;");
        Due.read(x, "tax 6;");
        x.by(1);
        x.work(0, 4);
        x.hour(1);
        x.year(3, 1);
        x.missing(0, 0, 0);
        x.forecast(1, true);
        x.forecast(2, true);
        x.offer(true, 1, 1);
        x.offer(true, 1, 1);
        x.offer(true, 1, 1);
        x.feed(1, 2, 3, 4, 5);
        int[] want = {2, 1, 2, 9, 8, 2, 10495, 2, 1, 3, 1, 2, 3, 20};
        for (int what = 0; what < want.length; what++) {
            due.is("about(" + what + ")", x.about(what), want[what]);
        }
        due.is("about(14)", x.about(14), -2);
        due.is("about(-1)", x.about(-1), -2);
    }
}
