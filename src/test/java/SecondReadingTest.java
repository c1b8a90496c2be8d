import java.util.ArrayDeque;
import java.util.ArrayList;
import java.util.Collections;
import java.util.Deque;
import java.util.HashMap;
import java.util.HashSet;
import java.util.LinkedHashSet;
import java.util.List;
import java.util.Map;
import java.util.Random;
import java.util.Set;
import java.util.regex.Matcher;
import java.util.regex.Pattern;

/**
 * Promises 7 and 8 told a second time, from the document's grammar as it is written there: a TOKEN can
 * stand where some TEXT goes on so (all ways of reading are followed at once), and what is open is told
 * from the TOKENS themselves. Drawn TEXTS, most with something wrong, must have the same FAULT by both.
 */
public final class SecondReadingTest {
    private static final Due due = new Due();

    private static final String[] LAWS = {"sweat", "rain", "tax", "dries", "share"};
    private static final List<String> OWN = List.of("who", "age", "full", "cloud", "work", "old");
    private static final List<String> COMMON = List.of("here", "heat", "wet", "hour");

    /** Left: right. Small words are TOKENS, "number" and "name" any of these. */
    private static final String[] GRAMMAR = {
        "START: CLAUSES $", "START: $",
        "CLAUSES: CLAUSE", "CLAUSES: CLAUSES CLAUSE",
        "CLAUSE: sweat SUM ;", "CLAUSE: rain SUM ;", "CLAUSE: tax SUM ;", "CLAUSE: dries SUM ;", "CLAUSE: share SUM ;",
        "CLAUSE: field number needs number drowns number ;", "CLAUSE: road number to number ;",
        "CLAUSE: one number age number on number ;", "CLAUSE: work number by number ;",
        "CLAUSE: go number to number ;", "CLAUSE: shake number to number ;",
        "CLAUSE: steal number from number by number ;", "CLAUSE: pour number on number ;", "CLAUSE: hour number ;",
        "SUM: PRODUCT", "SUM: SUM + PRODUCT", "SUM: SUM - PRODUCT",
        "PRODUCT: ONE", "PRODUCT: PRODUCT * ONE", "PRODUCT: PRODUCT / ONE",
        "ONE: number", "ONE: name", "ONE: ( SUM )", "ONE: - ONE", "ONE: sum SUM end", "ONE: count EITHER end",
        "EITHER: BOTH", "EITHER: EITHER or BOTH", "BOTH: ASK", "BOTH: BOTH and ASK",
        "ASK: not ASK", "ASK: SUM < SUM", "ASK: SUM <= SUM", "ASK: SUM > SUM", "ASK: SUM >= SUM", "ASK: SUM = SUM", "ASK: SUM # SUM"
    };
    private static final Map<String, List<String[]>> RULES = new HashMap<>();

    /** The least and the greatest of each NUMBER of the CLAUSES that are no laws. */
    private static final Map<String, int[]> BOUNDS = Map.of(
            "field", new int[] {0, 9, 0, 999, 1, 999}, "road", new int[] {0, 5, 0, 5}, "one", new int[] {1, 99, 0, 99, 0, 5},
            "work", new int[] {0, 7, 0, 9}, "go", new int[] {0, 7, 0, 5}, "shake", new int[] {0, 7, 0, 7},
            "steal", new int[] {0, 7, 0, 7, 1, 99}, "pour", new int[] {1, 999, 0, 5}, "hour", new int[] {1, 30});

    private static final int[] faults = new int[7];

    public static void main(String[] args) {
        for (String rule : GRAMMAR) {
            String[] sides = rule.split(": ");
            RULES.computeIfAbsent(sides[0], left -> new ArrayList<>()).add(sides[1].split(" "));
        }
        for (int run = 0; run < 12000; run++) {
            Random draw = new Random(run);
            String bytes = spoilt(drawn(draw), draw);
            if (bytes.length() <= 300) {
                compare(bytes);
            }
        }
        due.about("what was drawn");
        for (int fault = 0; fault < faults.length; fault++) {
            due.is("FAULT " + fault + " is drawn often enough (" + faults[fault] + ")", faults[fault] >= 50, true);
        }
        due.close();
    }

    private static void compare(String bytes) {
        int[] want = faultOf(bytes);
        OwnRain x = new OwnRain();
        due.about(bytes.replace('\n', '~'));
        due.is("text()", Due.read(x, bytes), want[0] == 0 ? 0 : OwnRain.NONE);
        due.is("fault(0)", x.fault(0), want[0]);
        due.is("fault(1)", x.fault(1), want[1]);
        due.is("about(13)", x.about(13), 0);
        faults[want[0]]++;
    }

    // What is due.

    private static final class Token {
        final String sign;
        final int place;

        Token(String sign, int place) {
            this.sign = sign;
            this.place = place;
        }

        boolean isNumber() {
            return Character.isDigit(sign.charAt(0));
        }

        boolean isName() {
            return OWN.contains(sign) || COMMON.contains(sign) || sign.equals("both");
        }

        boolean is(String terminal) {
            return terminal.equals("number") ? isNumber() : terminal.equals("name") ? isName() : terminal.equals(sign);
        }
    }

    private static List<Token> tokens(String bytes) {
        List<Token> tokens = new ArrayList<>();
        Matcher matcher = Pattern.compile("(?s)[a-zA-Z]+|[0-9]+|<=|>=|[^ \n]").matcher(bytes);
        while (matcher.find()) {
            // A byte that is no TOKEN may look like the sign for the end.
            tokens.add(new Token(matcher.group().equals("$") ? "?" : matcher.group(), matcher.start()));
        }
        tokens.add(new Token("$", bytes.length()));
        return tokens;
    }

    private static int[] faultOf(String bytes) {
        List<Token> tokens = tokens(bytes);
        int stands = standing(tokens);
        Context context = new Context();
        for (int i = 0; i < tokens.size(); i++) {
            int fault = i >= stands ? 1 : context.take(tokens.get(i));
            if (fault != 0) {
                return new int[] {fault, tokens.get(i).place};
            }
        }
        return new int[] {0, OwnRain.NONE};
    }

    /** What is left of a rule, and how much was read ahead of it. */
    private record Item(String left, List<String> rest, int from) {
    }

    /** How many TOKENS can stand where they do, from the first on. */
    private static int standing(List<Token> tokens) {
        List<Set<Item>> sets = new ArrayList<>();
        Set<Item> set = new LinkedHashSet<>();
        RULES.get("START").forEach(right -> put(sets, "START", right, 0));
        for (int i = 0; i < tokens.size(); i++) {
            set = sets.get(i);
            grow(sets, i);
            Set<Item> next = new LinkedHashSet<>();
            for (Item item : set) {
                if (!item.rest.isEmpty() && tokens.get(i).is(item.rest.get(0))) {
                    next.add(new Item(item.left, item.rest.subList(1, item.rest.size()), item.from));
                }
            }
            if (next.isEmpty()) {
                return i;
            }
            sets.add(next);
        }
        return tokens.size();
    }

    private static void put(List<Set<Item>> sets, String left, String[] right, int at) {
        if (sets.size() <= at) {
            sets.add(new LinkedHashSet<>());
        }
        sets.get(at).add(new Item(left, List.of(right), at));
    }

    /** Adds the rules that may begin here, and goes on with those whose part ends here. */
    private static void grow(List<Set<Item>> sets, int at) {
        Deque<Item> fresh = new ArrayDeque<>(sets.get(at));
        while (!fresh.isEmpty()) {
            Item item = fresh.remove();
            List<Item> more = new ArrayList<>();
            if (item.rest.isEmpty()) {
                for (Item waiting : sets.get(item.from)) {
                    if (!waiting.rest.isEmpty() && waiting.rest.get(0).equals(item.left)) {
                        more.add(new Item(waiting.left, waiting.rest.subList(1, waiting.rest.size()), waiting.from));
                    }
                }
            } else {
                for (String[] right : RULES.getOrDefault(item.rest.get(0), List.of())) {
                    more.add(new Item(item.rest.get(0), List.of(right), at));
                }
            }
            for (Item one : more) {
                if (sets.get(at).add(one)) {
                    fresh.add(one);
                }
            }
        }
    }

    /** What goes ahead of a TOKEN that can stand there, as far as FAULTS 2 to 6 ask for it. */
    private static final class Context {
        private final Set<String> laws = new HashSet<>();
        private final Deque<String> open = new ArrayDeque<>();
        private String clause = "";
        private int clauses;
        private int numbers;
        private boolean behindOne;

        int take(Token token) {
            String sign = token.sign;
            if (sign.equals("$")) {
                return 0;
            }
            if (clause.isEmpty()) {
                return begin(sign);
            }
            if (sign.equals(";")) {
                clause = "";
                return 0;
            }
            return List.of(LAWS).contains(clause) ? inLaw(token) : inDeed(token);
        }

        private int begin(String sign) {
            boolean again = List.of(LAWS).contains(sign) && !laws.add(sign);
            clause = sign;
            clauses++;
            numbers = 0;
            behindOne = false;
            return again ? 4 : clauses > 24 ? 6 : 0;
        }

        private int inDeed(Token token) {
            if (!token.isNumber()) {
                return 0;
            }
            int[] bounds = BOUNDS.get(clause);
            java.math.BigInteger value = new java.math.BigInteger(token.sign);
            boolean told = value.compareTo(java.math.BigInteger.valueOf(bounds[numbers * 2])) >= 0
                    && value.compareTo(java.math.BigInteger.valueOf(bounds[numbers * 2 + 1])) <= 0;
            numbers++;
            return told ? 0 : 2;
        }

        private int inLaw(Token token) {
            String sign = token.sign;
            boolean minus = sign.equals("-") && !behindOne;
            if (minus || List.of("(", "not", "sum", "count").contains(sign)) {
                behindOne = false;
                open.push(sign);
                return open.size() > 8 ? 3 : 0;
            }
            if (List.of("and", "or", "end").contains(sign)) {
                close("not");
            }
            if (sign.equals(")") || sign.equals("end")) {
                open.pop();
            }
            behindOne = token.isNumber() || token.isName() || sign.equals(")") || sign.equals("end");
            if (behindOne) {
                close("-");
            }
            if (token.isNumber()) {
                return sign.replaceFirst("^0+", "").length() > 4 ? 2 : 0;
            }
            return token.isName() && !isThere(sign) ? 5 : 0;
        }

        private void close(String opened) {
            while (!open.isEmpty() && open.peek().equals(opened)) {
                open.pop();
            }
        }

        private boolean isThere(String name) {
            if (name.equals("both")) {
                return clause.equals("share");
            }
            return COMMON.contains(name) || !clause.equals("dries") || open.contains("sum") || open.contains("count");
        }
    }

    // What is drawn.

    private static List<String> drawn(Random draw) {
        List<String> tokens = new ArrayList<>();
        List<String> laws = new ArrayList<>(List.of(LAWS));
        Collections.shuffle(laws, draw);
        boolean many = draw.nextInt(6) == 0;
        int clauses = many ? 22 + draw.nextInt(5) : draw.nextInt(5);
        for (int i = 0; i < clauses; i++) {
            if (!many && draw.nextInt(4) > 0 && !laws.isEmpty()) {
                drawLaw(tokens, draw.nextInt(15) == 0 ? LAWS[draw.nextInt(LAWS.length)] : laws.remove(0), draw);
            } else {
                // Of many the shortest, as there are 300 bytes for all.
                drawDeed(tokens, many ? 8 : draw.nextInt(9), many ? 200 : 20, draw);
            }
        }
        if (many && draw.nextInt(3) == 0) {
            tokens.addAll(draw.nextInt(20) * 3, List.of("tax", "1", ";"));
            tokens.addAll(List.of("tax", "1", ";"));
        }
        return tokens;
    }

    private static void drawLaw(List<String> tokens, String law, Random draw) {
        tokens.add(law);
        int own = law.equals("dries") ? 0 : 1;
        sum(tokens, 2 + draw.nextInt(10), own == 1 || draw.nextInt(9) == 0, law.equals("share") || draw.nextInt(20) == 0, draw);
        tokens.add(";");
    }

    private static void drawDeed(List<String> tokens, int kind, int seldom, Random draw) {
        String[] right = RULES.get("CLAUSE").get(LAWS.length + kind);
        int[] bounds = BOUNDS.get(right[0]);
        int number = 0;
        for (String part : right) {
            if (part.equals("number")) {
                int least = bounds[number * 2];
                int most = bounds[number * 2 + 1];
                int beside = draw.nextInt(seldom) - 1;
                int value = beside == -1 ? least - 1 : beside == 0 ? most + 1 : least + draw.nextInt(most - least + 1);
                tokens.add("" + Math.max(0, value));
                number++;
            } else {
                tokens.add(part);
            }
        }
    }

    private static void sum(List<String> tokens, int left, boolean own, boolean both, Random draw) {
        one(tokens, left, own, both, draw);
        for (int i = draw.nextInt(5) / 3; i > 0; i--) {
            tokens.add("+-*/".substring(draw.nextInt(4)).substring(0, 1));
            one(tokens, left, own, both, draw);
        }
    }

    private static void one(List<String> tokens, int left, boolean own, boolean both, Random draw) {
        int how = left <= 0 ? draw.nextInt(2) : draw.nextInt(10);
        if (how == 0) {
            tokens.add("" + (draw.nextInt(30) == 0 ? 9990 + draw.nextInt(20) : draw.nextInt(100)));
        } else if (how < 3) {
            List<String> names = new ArrayList<>(COMMON);
            names.addAll(own ? OWN : List.of());
            names.addAll(both ? List.of("both") : List.of());
            tokens.add(names.get(draw.nextInt(names.size())));
        } else if (how < 5) {
            tokens.add("(");
            sum(tokens, left - 1, own, both, draw);
            tokens.add(")");
        } else if (how < 7) {
            tokens.add("-");
            one(tokens, left - 1, own, both, draw);
        } else if (how < 8) {
            tokens.add("sum");
            sum(tokens, left - 1, true, both, draw);
            tokens.add("end");
        } else {
            tokens.add("count");
            asks(tokens, left - 1, both, draw);
            tokens.add("end");
        }
    }

    private static void asks(List<String> tokens, int left, boolean both, Random draw) {
        for (int i = draw.nextInt(6) / 3; i >= 0; i--) {
            int open = left;
            for (int nots = draw.nextInt(4) / 2 * draw.nextInt(4); nots > 0; nots--) {
                tokens.add("not");
                open--;
            }
            sum(tokens, open - 1, true, both, draw);
            tokens.add(List.of("<", "<=", ">", ">=", "=", "#").get(draw.nextInt(6)));
            sum(tokens, open - 1, true, both, draw);
            if (i > 0) {
                tokens.add(draw.nextBoolean() ? "and" : "or");
            }
        }
    }

    private static final String[] ANY = {"sweat", "rain", "tax", "dries", "share", "field", "road", "one", "work", "go", "shake",
        "steal", "pour", "hour", "needs", "drowns", "on", "by", "to", "from", "sum", "count", "end", "or", "and", "not", "age",
        "who", "full", "cloud", "old", "here", "heat", "wet", "both", "<=", ">=", "<", ">", "=", "#", "+", "-", "*", "/", "(",
        ")", ";", "0", "7", "10000", "00000000000000000012", "99999999999", "", "Sweat", "summ", "number", "name", "&", "$"};

    /** Some TOKENS changed, some bytes changed, blanks between (of letters and digits that would else be one). */
    private static String spoilt(List<String> tokens, Random draw) {
        for (int i = draw.nextInt(3); i > 0 && !tokens.isEmpty(); i--) {
            int at = draw.nextInt(tokens.size());
            String any = draw.nextInt(3) == 0 ? tokens.get(draw.nextInt(tokens.size())) : ANY[draw.nextInt(ANY.length)];
            switch (draw.nextInt(4)) {
                case 0 -> tokens.add(at, any);
                case 1 -> tokens.remove(at);
                case 2 -> tokens.set(at, any);
                default -> tokens.subList(at, tokens.size()).clear();
            }
        }
        StringBuilder bytes = new StringBuilder();
        for (String token : tokens) {
            boolean joins = bytes.length() > 0 && (bytes.charAt(bytes.length() - 1) + token).matches("[a-zA-Z]{2}.*|[0-9]{2}.*");
            if (joins && draw.nextInt(60) > 0 || draw.nextInt(12) == 0) {
                bytes.append(draw.nextInt(4) == 0 ? '\n' : ' ');
            }
            bytes.append(token);
        }
        if (draw.nextInt(10) == 0 && bytes.length() > 0) {
            bytes.setCharAt(draw.nextInt(bytes.length()), (char) draw.nextInt(256));
        }
        return bytes.toString();
    }
}
