import java.io.IOException;
import java.lang.reflect.Field;
import java.lang.reflect.Method;
import java.lang.reflect.Modifier;
import java.nio.file.Files;
import java.nio.file.Path;
import java.util.ArrayList;
import java.util.Arrays;
import java.util.List;
import java.util.TreeSet;
import java.util.regex.Matcher;
import java.util.regex.Pattern;

/** That the class keeps to what LANGUAGE.md leaves, as far as its lines show that, and to its room. */
public final class LanguageTest {
    private static final Due due = new Due();

    public static void main(String[] args) throws IOException {
        String source = Files.readString(Path.of("src/main/java/OwnRain.java"));
        String code = source.replaceAll("(?s)/\\*.*?\\*/", "").replaceAll("//[^\n]*", "");
        due.about("language");
        never(code, "\\b(throw|throws|try|catch|synchronized|assert|import|package|yield|var|lambda|finally|volatile|native)\\b");
        never(code, "->|::");
        never(code, "\\b(hashCode|toString|getClass|random|nanoTime|currentTimeMillis|values)\\b");
        never(code, "\"[^\"\n]*\"\\s*\\+|\\+\\s*\"");
        never(code, "\\b(Exact|StrictMath|Object|Iterator|Thread|Runnable|Scanner)\\b");
        never(code, "while \\(true\\)|for \\(;;\\)");
        never(source, "[^\\x00-\\x7f]");
        due.is("classes", found(code, "\\b(class|interface|enum|record) \\w+") <= 12, true);
        due.is("classes inside are private, static and final", found(code, "\\bclass \\w+"), 1 + found(code, "    private static final class \\w+"));
        due.is("parameters", found(code, "\\((?:[\\w\\[\\]]+ \\w+, ){7,}"), 0);
        methods(code);
        face();
        names();
        fields();
        room();
        due.close();
    }

    private static void never(String code, String what) {
        Matcher found = Pattern.compile(what).matcher(code);
        due.is("without " + what, found.find() ? found.start() : -1, -1);
    }

    private static int found(String code, String what) {
        return (int) Pattern.compile(what).matcher(code).results().count();
    }

    /** How long methods are, by the indents that they have. */
    private static void methods(String code) {
        Matcher method = Pattern.compile("(?m)^( {4}| {8})(?:\\w[\\w\\[\\] ]*)\\([^;{]*\\) \\{$").matcher(code);
        int many = 0;
        while (method.find()) {
            int end = code.indexOf("\n" + method.group(1) + "}", method.start());
            long lines = code.substring(method.start(), end).lines().count();
            due.is("lines of " + method.group().trim(), lines <= 60, true);
            many++;
        }
        due.is("methods are found", many > 100, true);
    }

    /** The document's face, and nothing beside it that is seen from outside. */
    private static void face() throws IOException {
        String document = Files.readString(Path.of("../shared/DOC.md"));
        TreeSet<String> want = new TreeSet<>();
        Matcher method = Pattern.compile("(?m)^    public (int|long|boolean) (\\w+)\\((.*)\\);$").matcher(document);
        while (method.find()) {
            want.add(method.group(1) + " " + method.group(2) + "(" + method.group(3).replaceAll("(\\w+) \\w+", "$1") + ")");
        }
        TreeSet<String> got = new TreeSet<>();
        for (Method own : OwnRain.class.getDeclaredMethods()) {
            if (!Modifier.isPrivate(own.getModifiers())) {
                List<String> types = new ArrayList<>();
                Arrays.stream(own.getParameterTypes()).forEach(type -> types.add(type.getName()));
                got.add(own.getReturnType() + " " + own.getName() + "(" + String.join(", ", types) + ")");
                due.is(own.getName() + " is public, and no static one", own.getModifiers(), Modifier.PUBLIC);
            }
        }
        due.about("1: the face");
        due.is("methods of the document", want.size(), 41);
        due.is(got + " by the side of " + want, got.equals(want), true);
        due.is("public and final", OwnRain.class.getModifiers(), Modifier.PUBLIC | Modifier.FINAL);
        due.is("one constructor", OwnRain.class.getDeclaredConstructors().length, 1);
        for (Field own : OwnRain.class.getDeclaredFields()) {
            due.is(own.getName(), !Modifier.isPrivate(own.getModifiers()), own.getName().equals("NONE"));
        }
    }

    private static void names() {
        due.about("1: no private method bears the name of a public one");
        TreeSet<String> face = new TreeSet<>();
        for (Method own : OwnRain.class.getMethods()) {
            face.add(own.getName());
        }
        for (Class<?> inside : OwnRain.class.getDeclaredClasses()) {
            for (Method own : inside.getDeclaredMethods()) {
                due.is(inside.getName() + "." + own.getName(), face.contains(own.getName()), false);
            }
        }
        for (Method own : OwnRain.class.getDeclaredMethods()) {
            due.is(own.getName(), face.contains(own.getName()), Modifier.isPublic(own.getModifiers()));
        }
    }

    private static void fields() {
        List<Class<?>> all = new ArrayList<>(List.of(OwnRain.class.getDeclaredClasses()));
        all.add(OwnRain.class);
        for (Class<?> one : all) {
            int many = 0;
            due.about("5: static fields are final, of what can be a constant");
            for (Field own : one.getDeclaredFields()) {
                if (Modifier.isStatic(own.getModifiers())) {
                    due.is(own.getName() + " is final", Modifier.isFinal(own.getModifiers()), true);
                    due.is(own.getName() + " is a constant", List.of("int", "String", "int[]").contains(own.getType().getSimpleName()), true);
                } else {
                    many++;
                }
            }
            due.about("11: some twenty fields");
            due.is(one.getName(), many <= 20, true);
        }
    }

    /** What 512 of the dearest calls leave behind, as nothing is ever given back. */
    private static void room() {
        com.sun.management.ThreadMXBean threads =
                (com.sun.management.ThreadMXBean) java.lang.management.ManagementFactory.getThreadMXBean();
        // The first one loads classes, which are not of the room.
        new OwnRain().text();
        long before = threads.getThreadAllocatedBytes(Thread.currentThread().getId());
        OwnRain x = new OwnRain();
        long made = threads.getThreadAllocatedBytes(Thread.currentThread().getId());
        for (int i = 0; i < 256; i++) {
            x.text();
            x.back();
        }
        long after = threads.getThreadAllocatedBytes(Thread.currentThread().getId());
        System.out.println("bytes for an object: " + (made - before) + ", for 512 calls: " + (after - made));
        due.is("an object is small", made - before < 100000, true);
        due.is("calls are small", after - made < 3000000, true);
    }
}
