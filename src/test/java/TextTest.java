/** Promises 5 to 9: the tape, TEXTS and their FAULTS, and which of them rules. */
public final class TextTest {
    private static final Due due = new Due();

    public static void main(String[] args) {
        feeding();
        ending();
        reading();
        tokens();
        everyClause();
        numbersOutOfBounds();
        whereNamesStand();
        tooDeep();
        theLeastFaultOfAToken();
        manyClauses();
        theTextThatRules();
        due.close();
    }

    private static void feeding() {
        due.about("promise 5");
        OwnRain x = new OwnRain();
        // "tax 9;" and blanks, by the highest byte first.
        due.is("feed", x.feed(0x74617820, 0x393b2020, 0x20202020, 0x0a0a0a0a, 0x20200a20), 20);
        due.is("a text", x.text(), 0);
        for (int i = 1; i <= 15; i++) {
            due.is("feed " + i, x.feed(0, 0, 0, 0, 0), 20 * i);
        }
        due.is("a sixteenth", x.feed(0, 0, 0, 0, 0), -1);
        due.is("none came", x.about(13), 300);
        x.end(281);
        due.is("19 would fit", x.feed(0, 0, 0, 0, 0), -1);
        x.end(280);
        due.is("20 fit", x.feed(0, 0, 0, 0, 0), 300);
        // Bytes above 127 are bytes, too.
        x.end(0);
        x.feed(-1, 0, 0, 0, 0);
        due.is("no token", x.text(), -1);
        due.is("its fault", x.fault(0), 1);
        due.is("its place", x.fault(1), 0);
    }

    private static void ending() {
        due.about("promise 6");
        OwnRain x = new OwnRain();
        due.is("end(1) of nothing", x.end(1), -1);
        due.is("end(0) of nothing", x.end(0), 0);
        x.feed(0x74617820, 0x393b7461, 0x7820383b, 0, 0);
        due.is("end(21)", x.end(21), -1);
        due.is("end(-1)", x.end(-1), -1);
        due.is("nothing was done", x.about(13), 20);
        due.is("end(20)", x.end(20), 20);
        due.is("end(6)", x.end(6), 6);
        due.is("six bytes", x.about(13), 6);
        due.is("the first six", x.text(), 0);
    }

    private static void reading() {
        due.about("promise 7");
        OwnRain x = new OwnRain();
        due.is("an empty tape", x.text(), 0);
        due.is("a good one", Due.read(x, " \n tax 1\n; "), 1);
        due.is("the tape is empty then", x.about(13), 0);
        due.is("a bad one", Due.read(x, "tax tax;"), -1);
        due.is("the tape is empty then, too", x.about(13), 0);
        due.is("no text more", x.about(7), 2);
        Due.read(x, "rain 1;");
        due.is("the fourth", Due.read(x, "rain 2;"), 3);
        due.about("promise 8");
        due.is("none", x.fault(0), 0);
        due.is("no place", x.fault(1), -1);
        due.about("promise 7");
        due.is("a fifth", Due.read(x, "oops"), -1);
        due.is("the tape stays", x.about(13), 4);
        due.about("promise 8");
        due.is("it wasn't read", x.fault(0), 0);
        due.is("fault(2)", x.fault(2), -1);
        due.is("fault(-1)", x.fault(-1), -1);
        OwnRain y = new OwnRain();
        due.is("ahead of any", y.fault(0), -1);
        due.is("ahead of any, the place", y.fault(1), -1);
        Due.read(y, "rain 1 1;");
        due.is("a fault", y.fault(0), 1);
        due.is("its place", y.fault(1), 7);
        y.image();
        Due.read(y, "rain 99999;");
        y.back();
        due.is("back leaves the latest fault", y.fault(0), 2);
        Due.read(y, "rain 1;");
        due.is("the latest is without", y.fault(0), 0);
        due.is("and has no place", y.fault(1), -1);
    }

    private static void good(String bytes) {
        OwnRain x = new OwnRain();
        due.is("'" + bytes + "'", Due.read(x, bytes), 0);
        due.is("fault of '" + bytes + "'", x.fault(0), 0);
    }

    private static void bad(String bytes, int fault, int place) {
        OwnRain x = new OwnRain();
        due.is("'" + bytes + "'", Due.read(x, bytes), -1);
        due.is("fault of '" + bytes + "'", x.fault(0), fault);
        due.is("place in '" + bytes + "'", x.fault(1), place);
    }

    private static void tokens() {
        due.about("promise 7, tokens");
        good("sweat1;rain2;");
        good("tax(1)*2/3+4-5;");
        good("tax 00000000000000000001;");
        good("rain count 1<=2and 3>=4or 5#6 end;");
        good("rain count1<2or1>2or1=2or1#2or1<=2or1>=2end;");
        bad("rain count 1< =2 end;", 1, 14);
        bad("rain count 1=<2 end;", 1, 13);
        bad("rain count 1>==2 end;", 1, 14);
        bad("rain count 1!2 end;", 1, 12);
        bad("rain count 1<=", 1, 14);
        bad(";".repeat(300), 1, 0);
        bad("sweat 1" + "+1".repeat(146) + "!", 1, 299);
        bad("sweat 1" + "+1".repeat(146) + "+", 1, 300);
        good("sweat 1" + "+1".repeat(146) + ";");
        bad("Rain 1;", 1, 0);
        bad("rain Cloud;", 1, 5);
        bad("raincloud;", 1, 0);
        bad("rai", 1, 0);
        bad("rains 1;", 1, 0);
        bad("rain\t1;", 1, 4);
        bad("rain 1;\r", 1, 7);
        bad("rain 1.5;", 1, 6);
        bad("rain _;", 1, 5);
        bad("rain " + (char) 160 + "1;", 1, 5);
        bad("rain", 1, 4);
        bad("rain  \n ", 1, 8);
        bad("rain 1 \n", 1, 8);
        bad(";", 1, 0);
        bad("rain 1;;", 1, 7);
    }

    private static void everyClause() {
        due.about("promise 7, clauses");
        good("sweat 1;rain 1;tax 1;dries 1;share 1;field 9 needs 999 drowns 999;road 5 to 0;one 99 age 99 on 5;");
        good("work 7 by 9;go 7 to 5;shake 7 to 7;steal 7 from 7 by 99;pour 999 on 5;hour 30;hour 1;pour 1 on 0;");
        good("field 0 needs 0 drowns 1;road 0 to 0;one 1 age 0 on 0;work 0 by 0;go 0 to 0;shake 0 to 0;");
        bad("field 1 drowns 2;", 1, 8);
        bad("field 1 needs 1 drowns 2", 1, 24);
        bad("field 1 needs 1;", 1, 15);
        bad("field heat needs 1 drowns 2;", 1, 6);
        bad("road 0 on 1;", 1, 7);
        bad("one 1 on 0;", 1, 6);
        bad("one 1 age 1 to 0;", 1, 12);
        bad("work 1 to 1;", 1, 7);
        bad("go 1 by 1;", 1, 5);
        bad("steal 1 from 2;", 1, 14);
        bad("steal 1 by 2;", 1, 8);
        bad("pour 1 by 1;", 1, 7);
        bad("hour;", 1, 4);
        bad("hour 1 to 2;", 1, 7);
        bad("hour -1;", 1, 5);
        bad("needs 1;", 1, 0);
        bad("cloud 1;", 1, 0);
        bad("5;", 1, 0);
        bad("sweat;", 1, 5);
        bad("sweat 1 2;", 1, 8);
        bad("sweat 1+;", 1, 8);
        bad("sweat *1;", 1, 6);
        bad("sweat (1;", 1, 8);
        bad("sweat 1);", 1, 7);
        bad("sweat ();", 1, 7);
        bad("sweat not 1;", 1, 6);
        bad("sweat 1 or 2;", 1, 8);
        bad("sweat sum end;", 1, 10);
        bad("sweat sum 1<2 end;", 1, 11);
        bad("sweat count 1 end;", 1, 14);
        bad("sweat count 1<2<3 end;", 1, 15);
        bad("sweat count (1<2) end;", 1, 14);
        bad("sweat count 1<2;", 1, 15);
        bad("sweat count 1<2 and end;", 1, 20);
        bad("sweat count or 1<2 end;", 1, 12);
        bad("sweat count 1<not 2 end;", 1, 14);
        bad("sweat sum 1 end end;", 1, 16);
        good("sweat --1;");
        good("sweat 1--1*-(2);");
        good("sweat count not 1<2 and not not 2<1 or 1=1 end+sum count who=0 end end;");
    }

    private static void numbersOutOfBounds() {
        due.about("promise 7, numbers");
        bad("sweat 10000;", 2, 6);
        bad("sweat 99999999999999999999999;", 2, 6);
        good("sweat 9999;");
        bad("field 1 needs 1 drowns 1000;", 2, 23);
        bad("field 99999 needs 1 drowns 1000;", 2, 6);
        bad("road 6 to 0;", 2, 5);
        bad("one 100 age 1 on 0;", 2, 4);
        bad("one 1 age 1 on 6;", 2, 15);
        bad("go 8 to 0;", 2, 3);
        bad("go 0 to 6;", 2, 8);
        bad("shake 8 to 0;", 2, 6);
        bad("shake 0 to 8;", 2, 11);
        bad("steal 8 from 0 by 1;", 2, 6);
        bad("steal 0 from 8 by 1;", 2, 13);
        bad("steal 0 from 1 by 0;", 2, 18);
        bad("pour 0 on 0;", 2, 5);
        bad("pour 1 on 6;", 2, 10);
        bad("hour 0;", 2, 5);
        bad("sweat 1 10000;", 1, 8);
    }

    private static void whereNamesStand() {
        due.about("promise 7, names");
        String[] laws = {"sweat", "rain", "tax", "share", "dries"};
        String[] own = {"who", "age", "full", "cloud", "work", "old"};
        String[] all = {"here", "heat", "wet", "hour"};
        for (String law : laws) {
            for (String name : own) {
                if (law.equals("dries")) {
                    bad("dries 1+(" + name + ");", 5, 9);
                    good("dries sum (" + name + ") end + count -" + name + "<0 end;");
                    bad("dries sum 1 end+" + name + ";", 5, 16);
                } else {
                    good(law + " (" + name + ")+sum " + name + " end+count not " + name + "=1 end;");
                }
            }
            for (String name : all) {
                good(law + " (" + name + ")+sum " + name + " end+count " + name + "=1 end;");
            }
            if (law.equals("share")) {
                good("share both+sum both end+count both>1 end;");
            } else {
                bad(law + " both;", 5, law.length() + 1);
                bad(law + " sum both end;", 5, law.length() + 5);
            }
        }
        bad("sweat needs;", 1, 6);
        bad("sweat from;", 1, 6);
        bad("sweat 1 both;", 1, 8);
    }

    private static void tooDeep() {
        due.about("promise 7, depth");
        good("tax ((((((((1))))))));");
        bad("tax (((((((((1)))))))));", 3, 12);
        good("tax --------1;");
        bad("tax ---------1;", 3, 12);
        good("tax 1-1-1-1-1-1-1-1-1-1-1;");
        good("tax -1-1-1-1-1+-1+-1+-1+-1+-1+-1;");
        good("tax (1)+(1)+(1)+(1)+(1)+(1)+(1)+(1)+(1)+(1);");
        good("tax count not not not not not not not 1=1 end;");
        bad("tax count not not not not not not not not 1=1 end;", 3, 38);
        bad("tax count not not not not not not not (1)=1 end;", 3, 38);
        good("tax sum sum sum sum sum sum sum sum 1 end end end end end end end end;");
        bad("tax sum(count -(sum-(-(1", 3, 21);
        bad("tax sum(count -(sum-()", 1, 21);
        bad("tax ((((((((not", 1, 12);
        bad("tax ((((((((sum", 3, 12);
        bad("tax ((((((((count", 3, 12);
        good("tax ((((((((1-1*2))))))));");
    }

    private static void theLeastFaultOfAToken() {
        due.about("promise 7, the first fault");
        bad("sweat 1;sweat 2;", 4, 8);
        bad("rain 1;tax 1;dries 1;share 1;share 1;", 4, 29);
        bad("sweat 1;rain 10000;sweat 2;", 2, 13);
        bad("sweat sweat 1;", 1, 6);
        bad("dries both cloud;", 5, 6);
        String many = "hour 1;".repeat(23);
        good(many + "tax 1;");
        bad(many + "tax 1;tax 2;", 4, 167);
        bad(many + "tax 1;rain 2;", 6, 167);
        bad(many + "tax 1;!", 1, 167);
        bad(many + "tax 1;cloud", 1, 167);
    }

    private static void manyClauses() {
        due.about("promise 7, 24 clauses");
        good("hour 1;".repeat(24));
        bad("hour 1;".repeat(25), 6, 168);
        good("hour 1;".repeat(24) + " ".repeat(300 - 7 * 24));
        bad("hour1;".repeat(50), 6, 144);
    }

    private static void theTextThatRules() {
        due.about("promise 9");
        OwnRain x = new OwnRain();
        due.is("none rules", x.by(-1), true);
        due.is("by(0) of none", x.by(0), false);
        Due.read(x, "sweat 5;");
        Due.read(x, "sweat 6;");
        x.field(1, 1, 2);
        x.person(99, 1, 0, 0);
        due.is("without", x.ofPerson(0, 5), 0);
        due.is("by(2)", x.by(2), false);
        due.is("by(-2)", x.by(-2), false);
        due.is("by(0)", x.by(0), true);
        due.is("by the first", x.ofPerson(0, 5), 5);
        due.is("by(1)", x.by(1), true);
        due.is("by the second", x.ofPerson(0, 5), 6);
        due.is("by it again", x.by(1), true);
        due.is("it is told", x.about(8), 1);
        due.is("by(7)", x.by(7), false);
        due.is("it stays", x.about(8), 1);
        due.is("by none", x.by(-1), true);
        due.is("none again", x.about(8), -1);
        due.is("work again", x.ofPerson(0, 5), 0);
        due.is("is no step", x.undo(), -1);
    }
}
