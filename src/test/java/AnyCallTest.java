import java.lang.reflect.InvocationTargetException;
import java.lang.reflect.Method;
import java.util.Arrays;
import java.util.Comparator;
import java.util.List;
import java.util.Random;

/**
 * Drawn calls with fitting and wild arguments: none throws, what only asks changes nothing, what is
 * refused does nothing, STEPS are taken back to what was, and two objects answer alike.
 */
public final class AnyCallTest {
    private static final Due due = new Due();
    private static final List<String> ASKS = List.of("fault", "ofField", "ofPerson", "rained", "foretoldWet",
            "foretoldCloud", "plan", "match", "shares", "cross", "widest", "near", "thieves", "filling", "errors",
            "bound", "market", "greatestTax", "water", "about");
    private static final List<String> STEPS = List.of("work", "go", "shake", "steal", "pour", "year");
    private static final List<String> REFUSE = List.of("field", "road", "person", "by", "hour", "work", "go", "shake",
            "steal", "pour", "year", "undo", "missing", "forecast", "offer");
    private static final int[] WILD = {Integer.MIN_VALUE, -1000, -3, -2, -1, 31, 32, 33, 63, 64, 255, 256, 299, 300,
        301, 998, 999, 1000, 1001, 9999, 10000, 1 << 30, Integer.MAX_VALUE};
    private static final String[] WORDS = {"sweat", "rain", "tax", "dries", "share", "field", "road", "one", "work",
        "go", "shake", "steal", "pour", "hour", "needs", "drowns", "on", "by", "to", "from", "sum", "count", "end", "or",
        "and", "not", "age", "who", "full", "cloud", "old", "here", "heat", "wet", "both", "x", "1", "0", "7", "99", "9999",
        "10000", "+", "-", "*", "/", "(", ")", "<", ">", "<=", ">=", "=", "#", ";", ";", ";", "!", "\n"};
    private static final String[] GOOD = {
        "sweat count cloud>3 end+work;rain cloud/2+1;tax old*5+1;dries heat*count full>0 end;share sum cloud end-old*2;",
        "field 3 needs 4 drowns 50;field 1 needs 0 drowns 9;road 0 to 1;one 10 age 70 on 0;one 6 age 20 on 0;work 0 by 4;hour 2;shake 0 to 1;go 1 to 1;",
        "steal 0 from 1 by 1;pour 1 on 0;hour 30;hour 30;hour 30;hour 30;hour 30;", "sweat sum sum sum sum who end end end end-hour;tax 9;"};

    public static void main(String[] args) throws IllegalAccessException {
        Method[] methods = OwnRain.class.getDeclaredMethods();
        Arrays.sort(methods, Comparator.comparing(Method::getName));
        methods = Arrays.stream(methods).filter(m -> java.lang.reflect.Modifier.isPublic(m.getModifiers())).toArray(Method[]::new);
        due.is("methods of the face", methods.length, 41);
        for (int run = 0; run < 300; run++) {
            due.about("run " + run);
            play(methods, new Random(run));
        }
        due.close();
    }

    private static void play(Method[] methods, Random draw) throws IllegalAccessException {
        OwnRain x = new OwnRain();
        OwnRain twin = new OwnRain();
        for (int i = 0; i < 250; i++) {
            if (draw.nextInt(8) == 0) {
                String text = draw.nextBoolean() ? GOOD[draw.nextInt(GOOD.length)] : soup(draw);
                due.is("reading " + text, Due.read(x, text), Due.read(twin, text));
            }
            Method method = methods[draw.nextInt(methods.length)];
            Object[] with = arguments(method, draw);
            String call = method.getName() + Arrays.toString(with);
            String before = Seen.of(x);
            int steps = x.about(9);
            int tape = x.about(13);
            Object answer = answer(method, x, with, call);
            if (!answer.equals(answer(method, twin, with, call))) {
                due.is(call + " by a twin", false, true);
            }
            String name = method.getName();
            boolean refused = answer.equals(-1) || answer.equals(-2) || answer.equals(false);
            if (ASKS.contains(name) || refused && REFUSE.contains(name)) {
                due.is(call + " changes nothing", Seen.of(x).equals(before), true);
                due.is(call + " leaves the tape", x.about(13), tape);
            } else if (STEPS.contains(name) && steps < 30) {
                x.undo();
                due.is(call + " can be taken back", Seen.of(x).equals(before), true);
                twin.undo();
            }
        }
        due.is("twins", Seen.of(x).equals(Seen.of(twin)), true);
    }

    private static Object answer(Method method, OwnRain x, Object[] with, String call) throws IllegalAccessException {
        try {
            return method.invoke(x, with);
        } catch (InvocationTargetException thrown) {
            System.out.println(call + " threw " + thrown.getCause());
            due.is(call + " throws nothing", false, true);
            return 0;
        }
    }

    private static Object[] arguments(Method method, Random draw) {
        Class<?>[] types = method.getParameterTypes();
        Object[] with = new Object[types.length];
        for (int i = 0; i < types.length; i++) {
            with[i] = types[i] == boolean.class ? (Object) draw.nextBoolean() : (Object) number(draw);
        }
        return with;
    }

    private static int number(Random draw) {
        switch (draw.nextInt(12)) {
            case 0:
                return WILD[draw.nextInt(WILD.length)];
            case 1:
                return draw.nextInt(100);
            case 2:
                return draw.nextInt(1100);
            case 3:
                return draw.nextInt(31);
            case 4:
                return draw.nextInt();
            case 5:
                return -1;
            default:
                return draw.nextInt(7);
        }
    }

    private static String soup(Random draw) {
        StringBuilder soup = new StringBuilder();
        for (int i = draw.nextInt(60); i > 0; i--) {
            String word = draw.nextInt(50) == 0 ? "" + (char) draw.nextInt(256) : WORDS[draw.nextInt(WORDS.length)];
            if (soup.length() + word.length() < 299) {
                soup.append(word).append(draw.nextInt(3) == 0 ? "" : " ");
            }
        }
        return soup.toString();
    }
}
