/** Promises 5 to 9 at their bounds: the tape, TOKENS, CLAUSES, each FAULT with its place, THE TEXT. */
public final class EdgesReadTest {
    private static final Due due = new Due();
    private static final Edges village = new Edges(due, Village::anew);
    private static final Edges full = new Edges(due, Village::full);
    private static final Edges empty = new Edges(due, OwnRain::new);
    private static final String[] LAWS = {"sweat", "rain", "tax", "dries", "share"};

    public static void main(String[] args) {
        feeding();
        bytesInTheirOrder();
        ending();
        reading();
        fourTexts();
        faultsTold();
        blanks();
        letters();
        digits();
        theLongest();
        numbers();
        numbersOfClauses();
        everyEnd();
        everyWrongToken();
        clauses();
        eachOnce();
        open();
        names();
        theFirstFault();
        theLeastOfOne();
        threeHundredBytes();
        theText();
        due.close();
    }

    private static void good(String bytes) {
        OwnRain x = new OwnRain();
        due.is("'" + bytes + "'", Due.read(x, bytes), 0);
        due.is("FAULT of '" + bytes + "'", x.fault(0), 0);
        due.is("no place in '" + bytes + "'", x.fault(1), -1);
    }

    private static void bad(String bytes, int fault, int place) {
        OwnRain x = new OwnRain();
        due.is("'" + bytes + "'", Due.read(x, bytes), -1);
        due.is("FAULT of '" + bytes + "'", x.fault(0), fault);
        due.is("place in '" + bytes + "'", x.fault(1), place);
    }

    private static void feeding() {
        due.about("5: how many it has; any ints");
        int[] any = {Integer.MIN_VALUE, Integer.MAX_VALUE, -1, 0, 1};
        OwnRain x = new OwnRain();
        for (int i = 0; i < 15; i++) {
            due.is("feed", x.feed(any[i % 5], any[i * 2 % 5], any[i * 3 % 5], any[i / 2 % 5], any[i / 3 % 5]), 20 * i + 20);
        }
        due.about("5: NONE, and none come, if there would be more than 300");
        full.does("feed(_, ..)", 0, 0, -1, (y, v) -> y.feed(v, v, v, v, v), v -> -1);
        for (int length : new int[] {279, 280, 281, 282, 299, 300}) {
            OwnRain y = Village.full();
            y.end(length);
            boolean fits = length <= 280;
            due.is("feed behind " + length, y.feed(0, 0, 0, 0, 0), fits ? length + 20 : -1);
            due.is("bytes then", y.about(13), fits ? length + 20 : length);
        }
        due.about("5: none come");
        OwnRain z = new OwnRain();
        Due.load(z, " ".repeat(274) + "tax 12;");
        due.is("feed behind 281", z.feed(-1, -1, -1, -1, -1), -1);
        due.is("what was on the tape", z.text(), 0);
    }

    private static void bytesInTheirOrder() {
        due.about("5: the highest of a first");
        for (int place = 0; place < 40; place++) {
            OwnRain x = new OwnRain();
            int[] four = new int[10];
            for (int i = 0; i < 40; i++) {
                four[i / 4] |= (i == place ? 200 : 32) << 24 - i % 4 * 8;
            }
            x.feed(four[0], four[1], four[2], four[3], four[4]);
            x.feed(four[5], four[6], four[7], four[8], four[9]);
            due.is("byte " + place, x.text(), -1);
            due.is("is there", x.fault(1), place);
        }
        OwnRain y = new OwnRain();
        y.feed(0x74617820, 0x31202020, 0x20202020, 0x20202020, 0x2020203b);
        due.is("the lowest of e last", y.text(), 0);
    }

    private static void ending() {
        due.about("6: NONE, and nothing is done, if it has not so many, or n is below 0");
        village.takes("end(_)", 0, 15, -1, OwnRain::end, v -> v);
        full.takes("end(_)", 0, 300, -1, OwnRain::end, v -> v);
        empty.asks("end(_)", 0, 0, -1, OwnRain::end, v -> 0);
        due.about("6: its first n bytes alone");
        for (int n = 0; n <= 12; n++) {
            OwnRain x = new OwnRain();
            Due.load(x, "tax 1;tax 2;");
            due.is("end(" + n + ")", x.end(n), n);
            due.is("bytes", x.about(13), n);
            boolean whole = n == 0 || n == 6;
            due.is("read", x.text(), whole ? 0 : -1);
            due.is("FAULT at", x.fault(1), whole ? -1 : n < 6 ? n < 3 ? 0 : n : 6);
        }
        OwnRain x = Village.anew();
        x.end(6);
        x.end(5);
        due.is("what is cut doesn't come again", x.end(6), -1);
    }

    private static void reading() {
        due.about("7: the tape (empty then) is a TEXT: its number");
        OwnRain x = new OwnRain();
        due.is("of an empty tape", x.text(), 0);
        due.is("it has no FAULT", x.fault(0), 0);
        due.is("nor place", x.fault(1), -1);
        due.is("it is no law", x.by(0), true);
        due.is("and does nothing", x.played(0), -1);
        due.is("of the empty tape again", x.text(), 1);
        due.is("of blanks", Due.read(x, " \n\n "), 2);
        due.is("the tape is empty", x.about(13), 0);
        due.about("7: NONE: it has a FAULT");
        due.is("bad", Due.read(x, "tax"), -1);
        due.is("the tape is empty", x.about(13), 0);
        due.is("no TEXT more", x.about(7), 3);
        due.is("no such", x.by(3), false);
        OwnRain y = Village.anew();
        y.end(0);
        OwnRain z = Village.anew();
        due.is("a FAULT leaves all else", Due.read(z, "rain rain;"), -1);
        due.is("as it was", Whole.of(z).equals(Whole.of(y)), true);
    }

    private static void fourTexts() {
        due.about("7: NONE: (the tape stays) there are 4");
        OwnRain x = new OwnRain();
        for (int text = 0; text < 4; text++) {
            due.is("text " + text, Due.read(x, "sweat " + text + ";"), text);
            due.is("how many", x.about(7), text + 1);
        }
        x.field(0, 0, 1);
        x.person(99, 0, 0, 0);
        for (String bytes : new String[] {"sweat 5;", "oops", ""}) {
            due.is("a fifth: " + bytes, Due.read(x, bytes), -1);
            due.is("the tape stays", x.about(13), bytes.length());
            due.is("the latest that was read has no FAULT", x.fault(0), 0);
            due.is("nor place", x.fault(1), -1);
        }
        for (int text = 0; text < 4; text++) {
            x.by(text);
            due.is("its own law", x.ofPerson(0, 5), text);
        }
        full.refuses("text()", -1, OwnRain::text);
        due.about("7: the tape that stayed is read where there are fewer");
        OwnRain y = Village.full();
        due.is("text()", y.text(), -1);
        y.back();
        due.is("300 bytes have two laws of tax", y.text(), -1);
        due.is("FAULT", y.fault(0), 4);
        due.is("place", y.fault(1), 20);
        due.is("empty then", y.about(13), 0);
    }

    private static void faultsTold() {
        due.about("8: 0 its FAULT, 1 its place, NONE for others");
        village.asks("fault(_)", 0, 1, -1, OwnRain::fault, v -> v == 0 ? 1 : 5);
        full.asks("fault(_)", 0, 1, -1, OwnRain::fault, v -> v == 0 ? 0 : -1);
        due.about("8: NONE ahead of any");
        empty.asks("fault(_)", 0, 1, -1, OwnRain::fault, v -> -1);
        OwnRain x = new OwnRain();
        Due.load(x, "oops");
        due.is("a tape alone is not read", x.fault(0), -1);
        due.about("8: of the latest text that was read");
        x.text();
        due.is("FAULT", x.fault(0), 1);
        due.is("place", x.fault(1), 0);
        Due.read(x, "tax 1;");
        due.is("0 without", x.fault(0), 0);
        due.is("NONE without", x.fault(1), -1);
        Due.read(x, "tax 10000;");
        due.is("another FAULT", x.fault(0), 2);
        due.is("another place", x.fault(1), 4);
        x.back();
        due.is("BACK leaves the FAULT", x.fault(0), 2);
        due.is("BACK leaves the place", x.fault(1), 4);
    }

    /** Of a byte behind a whole CLAUSE: blanks are good, nothing else can stand there or is a CLAUSE by itself. */
    private static void blanks() {
        due.about("II: blanks (32, 10)");
        for (int b = 0; b < 256; b++) {
            if (b == 32 || b == 10) {
                good("tax 1;" + (char) b);
                good((char) b + "tax 1;");
                good("tax" + (char) b + "1" + (char) b + ";");
            } else {
                bad("tax 1;" + (char) b, 1, 6);
                bad("" + (char) b, 1, 0);
            }
        }
        due.about("II: blanks part TOKENS");
        bad("ta x 1;", 1, 0);
        bad("tax 1 2;", 1, 6);
        bad("tax\n1\n2;", 1, 6);
        bad("hour 1 0;", 1, 7);
    }

    private static boolean isLetter(int b) {
        return b >= 'a' && b <= 'z' || b >= 'A' && b <= 'Z';
    }

    private static boolean isDigit(int b) {
        return b >= '0' && b <= '9';
    }

    /** A letter makes another word of tax; each other byte begins a TOKEN of its own, or is none. */
    private static void letters() {
        due.about("II: letters a .. z, A .. Z one behind the other (one TOKEN)");
        for (int b = 0; b < 256; b++) {
            String bytes = "tax" + (char) b + " 1;";
            if (isLetter(b)) {
                bad(bytes, 1, 0);
            } else if (b == 32 || b == 10 || b == '-') {
                good(bytes);
            } else {
                bad(bytes, 1, isDigit(b) ? 5 : b == '(' ? 6 : 3);
            }
        }
        due.about("II: words are as they stand");
        bad("Tax 1;", 1, 0);
        bad("TAX 1;", 1, 0);
        bad("taX 1;", 1, 0);
        bad("tax Age;", 1, 4);
        bad("ta 1;", 1, 0);
        bad("taxtax 1;", 1, 0);
        good("tax1;rain(1);");
        good("tax1-age;");
        bad("tax agE;", 1, 4);
        bad("tax agewho;", 1, 4);
        good("tax count 1<2or1<2and1<2end;");
    }

    private static void digits() {
        due.about("II: digits likewise");
        for (int b = 0; b < 256; b++) {
            String bytes = "tax 1" + (char) b + "2;";
            if (isDigit(b) || "+-*/".indexOf(b) >= 0) {
                good(bytes);
            } else {
                bad(bytes, 1, b == 32 || b == 10 || b == ';' ? 6 : 5);
            }
        }
        due.about("II: signs, and what is none");
        for (int b = 0; b < 256; b++) {
            String bytes = "tax count 1" + (char) b + "2 end;";
            if ("<>=#".indexOf(b) >= 0) {
                good(bytes);
            } else if (isDigit(b) || "+-*/".indexOf(b) >= 0) {
                bad(bytes, 1, 14);
            } else {
                bad(bytes, 1, b == 32 || b == 10 ? 12 : 11);
            }
        }
    }

    private static void theLongest() {
        due.about("II: <= >= < > = # (the longest)");
        String[] signs = {"<", "<=", ">", ">=", "=", "#"};
        for (String one : signs) {
            good("tax count 1" + one + "2 end;");
            good("tax count 1 " + one + " 2 end;");
            for (String other : signs) {
                boolean joined = (one + other).equals("<=") || (one + other).equals(">=");
                if (joined) {
                    good("tax count 1" + one + other + "2 end;");
                } else {
                    bad("tax count 1" + one + other + "2 end;", 1, 11 + one.length());
                }
                bad("tax count 1" + one + " " + other + "2 end;", 1, 12 + one.length());
            }
        }
        due.about("II: = is joined to < and > alone");
        for (int b = 0; b < 256; b++) {
            String bytes = "tax count 1" + (char) b + "=2 end;";
            if (b == '<' || b == '>' || b == 32 || b == 10 || isDigit(b)) {
                good(bytes);
            } else {
                bad(bytes, 1, "+-*/=#".indexOf(b) >= 0 ? 12 : 11);
            }
        }
        bad("tax count 1<", 1, 12);
        bad("tax count 1<=", 1, 13);
        bad("tax count 1<==2 end;", 1, 13);
        bad("tax count 1<>=2 end;", 1, 12);
    }

    private static void numbers() {
        due.about("II: NUMBERS, 0 .. 9999; 2 above 9999");
        for (String number : new String[] {"0", "1", "9998", "9999", "0000", "09999", "00000000000009999"}) {
            good("tax " + number + ";");
            good("tax 1+" + number + ";");
        }
        String[] above = {"10000", "10001", "99999", "010000", "2147483647", "2147483648", "4294967295", "4294967296", "4294967301",
            "18446744073709551616", "18446744073709551621", "1" + "0".repeat(100)};
        for (String number : above) {
            bad("tax " + number + ";", 2, 4);
            bad("tax 1+(2*" + number + ");", 2, 9);
            bad("hour " + number + ";", 2, 5);
            bad("tax " + number, 2, 4);
        }
        bad("tax " + "9".repeat(296), 2, 4);
        good("tax " + "0".repeat(295) + ";");
        due.about("II: 2 where a NUMBER can stand, else 1");
        bad("10000;", 1, 0);
        bad("tax 1 10000;", 1, 6);
        bad("field 1 10000;", 1, 8);
        bad("tax 1;10000", 1, 6);
    }

    /** Each NUMBER of a CLAUSE at the mark, with the bounds that are told of it. */
    private static void numbersOfClauses() {
        due.about("II: 2 a NUMBER that isn't one of those told");
        within("field _ needs 0 drowns 1;", 0, 9);
        within("field 0 needs _ drowns 1;", 0, 999);
        within("field 0 needs 0 drowns _;", 1, 999);
        within("road _ to 0;", 0, 5);
        within("road 0 to _;", 0, 5);
        within("one _ age 0 on 0;", 1, 99);
        within("one 1 age _ on 0;", 0, 99);
        within("one 1 age 0 on _;", 0, 5);
        within("work _ by 0;", 0, 7);
        within("work 0 by _;", 0, 9);
        within("go _ to 0;", 0, 7);
        within("go 0 to _;", 0, 5);
        within("shake _ to 0;", 0, 7);
        within("shake 0 to _;", 0, 7);
        within("steal _ from 0 by 1;", 0, 7);
        within("steal 0 from _ by 1;", 0, 7);
        within("steal 0 from 0 by _;", 1, 99);
        within("pour _ on 0;", 1, 999);
        within("pour 1 on _;", 0, 5);
        within("hour _;", 1, 30);
        due.about("II: whether it can be done is no FAULT");
        good("field 0 needs 999 drowns 1;road 3 to 3;shake 5 to 5;steal 6 from 6 by 99;go 7 to 5;work 7 by 0;");
    }

    private static void within(String clause, int least, int most) {
        int place = clause.indexOf('_');
        for (int number : new int[] {least - 1, least, least + 1, most - 1, most, most + 1, most + 256, 9999, 10000, 65536 + least}) {
            if (number >= 0) {
                String bytes = clause.replace("_", "" + number);
                if (number >= least && number <= most) {
                    good(bytes);
                    good(clause.replace("_", "000" + number));
                } else {
                    bad(bytes, 2, place);
                    bad("\n tax 1; " + bytes, 2, place + 9);
                    bad(bytes.substring(0, bytes.length() - 1), 2, place);
                }
            }
        }
    }

    private static final String[] PARTS = {
        "field 1 needs 2 drowns 3 ;", "road 1 to 2 ;", "one 1 age 2 on 3 ;", "work 1 by 2 ;", "go 1 to 2 ;", "shake 1 to 2 ;",
        "steal 1 from 2 by 3 ;", "pour 1 on 2 ;", "hour 1 ;", "sweat 1 ;", "rain age + - 1 * ( 2 / who ) ;",
        "tax sum age end - count not 1 < 2 and 3 >= 4 or 5 # 6 end ;", "dries heat - sum who end ;", "share both ;"};

    private static void everyEnd() {
        due.about("II: 1 of the end at the length");
        for (String clause : PARTS) {
            good(clause);
            for (int end = 1; end < clause.length(); end++) {
                if (clause.charAt(end) == ' ') {
                    bad(clause.substring(0, end), 1, end);
                    bad(clause.substring(0, end) + " ", 1, end + 1);
                    bad(clause.substring(0, end) + " \n \n", 1, end + 4);
                }
            }
        }
        bad("tax", 1, 3);
        bad("tax" + " ".repeat(297), 1, 300);
    }

    /** What is no TOKEN, and what is but is a CLAUSE's own word, in the place of each TOKEN. */
    private static void everyWrongToken() {
        due.about("II: 1 it can't stand there, or is none");
        for (String clause : PARTS) {
            String[] tokens = clause.split(" ");
            int place = 0;
            for (int i = 0; i < tokens.length; i++) {
                for (String wrong : new String[] {"!", "needs", "Field", "_", "drownss", "&", "'", "" + (char) 0, "" + (char) 255}) {
                    if (!tokens[i].equals(wrong)) {
                        tokens[i] = swap(tokens, i, wrong, place);
                    }
                }
                place += tokens[i].length() + 1;
            }
        }
    }

    /** Reads it with another TOKEN in a place; the one that was there. */
    private static String swap(String[] tokens, int i, String wrong, int place) {
        String was = tokens[i];
        tokens[i] = wrong;
        bad(String.join(" ", tokens), 1, place);
        return was;
    }

    private static void clauses() {
        due.about("II: {CLAUSE}, 24 at most; 6 the 25th CLAUSE (at its first TOKEN)");
        String hour = "hour 1;";
        for (int many : new int[] {0, 1, 23, 24}) {
            good(hour.repeat(many));
            due.is("all " + many + " are done", Due.played(hour.repeat(many)).about(2), many);
        }
        bad(hour.repeat(25), 6, 24 * 7);
        bad(hour.repeat(24) + " \n hour", 6, 24 * 7 + 3);
        bad(hour.repeat(24) + "hour 0;", 6, 24 * 7);
        for (String law : LAWS) {
            bad(hour.repeat(24) + law + " 1;", 6, 24 * 7);
            good(hour.repeat(23) + law + " 1;");
        }
        bad("tax1;rain1;" + "hour1;".repeat(23), 6, 11 + 22 * 6);
    }

    private static void eachOnce() {
        due.about("II: each once; 4 for the second time (at it)");
        good("sweat 1;rain 1;tax 1;dries 1;share 1;");
        good("share 1;dries 1;tax 1;rain 1;sweat 1;");
        for (String law : LAWS) {
            String one = law + " 1;";
            bad(one + one, 4, one.length());
            bad(one + "hour 1;\n" + law, 4, one.length() + 8);
            bad(one + one + one, 4, one.length());
        }
        good("hour 1;hour 1;field 0 needs 0 drowns 1;field 0 needs 0 drowns 1;road 0 to 1;road 0 to 1;");
    }

    private static void open() {
        due.about("II: 3 the 9th of ( not sum count and - (of one ONE) that are open around one another (at it)");
        good("tax " + "(".repeat(8) + "1" + ")".repeat(8) + ";");
        bad("tax " + "(".repeat(9) + "1" + ")".repeat(9) + ";", 3, 12);
        good("tax " + "-".repeat(8) + "1;");
        bad("tax " + "-".repeat(9) + "1;", 3, 12);
        good("tax " + "sum ".repeat(8) + "1" + " end".repeat(8) + ";");
        bad("tax " + "sum ".repeat(9) + "1", 3, 4 + 32);
        good("tax count " + "not ".repeat(7) + "1=1 end;");
        bad("tax count " + "not ".repeat(8) + "1=1 end;", 3, 10 + 28);
        good("tax " + "count ".repeat(8) + "1" + "=1 end".repeat(8) + ";");
        bad("tax " + "count ".repeat(9) + "1", 3, 4 + 48);
        due.about("II: 3 each of them as the 9th behind eight of each");
        String[] opens = {"(", "-", "sum ", "count "};
        for (String eight : opens) {
            for (String ninth : opens) {
                bad("tax " + eight.repeat(8) + ninth + "1", 3, 4 + 8 * eight.length());
            }
            bad("tax " + eight.repeat(7) + "count 1<(1", 3, 4 + 7 * eight.length() + 8);
            bad("tax " + eight.repeat(7) + "count not 1=1", 3, 4 + 7 * eight.length() + 6);
            bad("tax " + eight.repeat(6) + "count not (1", 3, 4 + 6 * eight.length() + 10);
            bad("tax " + eight.repeat(5) + "count not (1", 1, 4 + 5 * eight.length() + 12);
        }
        due.about("II: only those that are open, and a - of a SUM opens nothing");
        good("tax " + "(".repeat(8) + "1-1-1" + ")".repeat(8) + "+" + "(".repeat(8) + "1" + ")".repeat(8) + ";");
        good("tax " + "(".repeat(8) + "1" + "-1".repeat(60) + ")".repeat(8) + ";");
        good("tax " + "(".repeat(7) + "-1*-1+-1--1" + ")".repeat(7) + ";");
        good("tax -1" + "*-1".repeat(40) + ";");
        bad("tax " + "(".repeat(8) + "1--1", 3, 14);
        good("tax sum 1 end" + "+sum 1 end".repeat(20) + ";");
        good("tax count not 1=1" + " and not 1=1".repeat(15) + " end;");
        good("tax count " + "not ".repeat(7) + "1=1 and " + "not ".repeat(7) + "1=1 or " + "not ".repeat(7) + "1=1 end;");
        bad("tax count " + "not ".repeat(7) + "(1)=1 end;", 3, 38);
        bad("tax count " + "not ".repeat(7) + "1=-1 end;", 3, 40);
        due.about("II: 3 at it, 1 if it can't stand there");
        bad("tax " + "(".repeat(8) + "not 1", 1, 12);
        bad("tax " + "(".repeat(8) + ")", 1, 12);
        bad("tax count " + "not ".repeat(7) + "1=not", 1, 40);
    }

    private static void names() {
        String[] own = {"who", "age", "full", "cloud", "work", "old"};
        String[] all = {"here", "heat", "wet", "hour"};
        due.about("II: who, age, full, cloud, work, old in sweat, rain, tax, share, and within sum and count; 5");
        for (String name : own) {
            for (String law : new String[] {"sweat", "rain", "tax", "share"}) {
                good(law + " " + name + ";");
                good(law + " -(1+" + name + ")*2;");
            }
            bad("dries " + name + ";", 5, 6);
            bad("dries " + name, 5, 6);
            bad("dries -(1+" + name + ")*2;", 5, 10);
            good("dries sum " + name + " end;");
            good("dries sum -(" + name + "+1) end;");
            good("dries count " + name + "=1 or 1=" + name + " end;");
            bad("dries sum " + name + " end+" + name + ";", 5, 15 + name.length());
            bad("dries (count " + name + "=1 end+" + name + ");", 5, 20 + name.length());
        }
        due.about("II: here, heat, wet, hour in all");
        for (String law : LAWS) {
            for (String name : all) {
                good(law + " " + name + ";");
                good(law + " sum (" + name + ") end-count " + name + "<1 end;");
            }
        }
        due.about("II: both in share; 5");
        good("share both;");
        good("share sum both end+count both=1 end;");
        for (String law : new String[] {"sweat", "rain", "tax", "dries"}) {
            bad(law + " both;", 5, law.length() + 1);
            bad(law + " 1+(both);", 5, law.length() + 4);
            bad(law + " sum both end;", 5, law.length() + 5);
            bad("share both;" + law + " count both=1 end;", 5, 11 + law.length() + 7);
        }
        bad("share both;dries who;", 5, 17);
        due.about("II: a NAME where none can stand is 1");
        bad("who;", 1, 0);
        bad("dries 1 who;", 1, 8);
        bad("tax 1 both;", 1, 6);
        bad("hour who;", 1, 5);
        bad("hour both;", 1, 5);
    }

    private static void theFirstFault() {
        due.about("II: FAULTS, the first as TOKENS are come to");
        bad("tax 10000 10000 both;", 2, 4);
        bad("tax both 10000;", 5, 4);
        bad("tax " + "(".repeat(9) + "10000", 3, 12);
        bad("tax 10000" + "(".repeat(9), 2, 4);
        bad("tax 1;tax 10000;", 4, 6);
        bad("tax 10000;tax 1;", 2, 4);
        bad("hour 31" + ";hour 1".repeat(25), 2, 5);
        bad("hour 1;".repeat(24) + "hour 31;", 6, 168);
        bad("tax both+" + "(".repeat(9), 5, 4);
        bad("tax ! both", 1, 4);
        bad("tax both !", 5, 4);
        bad("one 0 age 100 on 6;", 2, 4);
        bad("one 1 age 100 on 6;", 2, 10);
        bad("one 1 age 10 on 6;", 2, 16);
    }

    private static void theLeastOfOne() {
        due.about("II: of one the least");
        String hours = "hour 1;".repeat(23);
        bad(hours + "tax 1;tax", 4, 167);
        bad(hours + "tax 1;age", 1, 167);
        bad(hours + "tax 1;10000", 1, 167);
        bad(hours + "tax 1;(", 1, 167);
        bad(hours + "tax 1;!", 1, 167);
        bad(hours + "tax 1;share", 6, 167);
        bad("tax " + "(".repeat(8) + "1(", 1, 13);
        bad("tax 1;both", 1, 6);
        bad("tax 1 tax", 1, 6);
    }

    private static void threeHundredBytes() {
        due.about("II: of up to 300 bytes");
        good(" ".repeat(294) + "tax 1;");
        good("tax 1;" + " ".repeat(294));
        good("tax 1" + "+1".repeat(147) + ";");
        bad("tax 1" + "+1".repeat(147) + "!", 1, 299);
        bad("tax 1" + "+1".repeat(147) + "+", 1, 300);
        bad(" ".repeat(299) + "x", 1, 299);
        bad(" ".repeat(296) + "tax ", 1, 300);
        good("tax age" + "+age".repeat(73) + ";");
        bad("a".repeat(300), 1, 0);
        bad("(".repeat(300), 1, 0);
        OwnRain x = Due.played("sweat 0" + "+1".repeat(60) + "+1-1".repeat(43) + ";");
        x.field(0, 0, 1);
        x.person(99, 1, 0, 0);
        due.is("all of it counts", x.ofPerson(0, 5), 60);
    }

    private static void theText() {
        due.about("9: THE TEXT (NONE: none): true; false for others");
        village.takes("by(_)", -1, 1, 0, (x, v) -> x.by(v) ? 1 : 0, v -> 1);
        full.takes("by(_)", -1, 3, 0, (x, v) -> x.by(v) ? 1 : 0, v -> 1);
        empty.takes("by(_)", -1, -1, 0, (x, v) -> x.by(v) ? 1 : 0, v -> 1);
        OwnRain all = Village.full();
        for (int text = 3; text >= -1; text--) {
            all.by(text);
            due.is("about(8) behind by(" + text + ")", all.about(8), text);
        }
        due.about("9: no STEP, not taken back");
        OwnRain x = Village.anew();
        x.by(1);
        due.is("STEPS", x.about(9), 6);
        x.undo();
        due.is("THE TEXT", x.about(8), 1);
    }
}
