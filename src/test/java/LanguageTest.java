import java.io.IOException;
import java.nio.file.Files;
import java.nio.file.Path;
import java.util.regex.Matcher;
import java.util.regex.Pattern;

/** That the class keeps to what LANGUAGE.md leaves, as far as its lines show that, and to its room. */
public final class LanguageTest {
    private static final Due due = new Due();

    public static void main(String[] args) throws IOException {
        String source = Files.readString(Path.of("src/main/java/OwnRain.java"));
        String code = source.replaceAll("(?s)/\\*.*?\\*/", "").replaceAll("//[^\n]*", "");
        due.about("language");
        never(code, "\\b(throw|throws|try|catch|synchronized|assert|import|package|yield|var|lambda|finally|volatile|native)\\b");
        never(code, "->|::");
        never(code, "\\b(hashCode|toString|getClass|random|nanoTime|currentTimeMillis|values)\\b");
        never(code, "\"[^\"\n]*\"\\s*\\+|\\+\\s*\"");
        never(code, "\\b(Exact|StrictMath|Object|Iterator|Thread|Runnable|Scanner)\\b");
        never(code, "while \\(true\\)|for \\(;;\\)");
        never(source, "[^\\x00-\\x7f]");
        due.is("classes", found(code, "\\b(class|interface|enum|record) \\w+") <= 12, true);
        due.is("classes inside are private, static and final", found(code, "\\bclass \\w+"), 1 + found(code, "    private static final class \\w+"));
        due.is("parameters", found(code, "\\((?:[\\w\\[\\]]+ \\w+, ){7,}"), 0);
        methods(code);
        room();
        due.close();
    }

    private static void never(String code, String what) {
        Matcher found = Pattern.compile(what).matcher(code);
        due.is("without " + what, found.find() ? found.start() : -1, -1);
    }

    private static int found(String code, String what) {
        return (int) Pattern.compile(what).matcher(code).results().count();
    }

    /** How long methods are, by the indents that they have. */
    private static void methods(String code) {
        Matcher method = Pattern.compile("(?m)^( {4}| {8})(?:\\w[\\w\\[\\] ]*)\\([^;{]*\\) \\{$").matcher(code);
        int many = 0;
        while (method.find()) {
            int end = code.indexOf("\n" + method.group(1) + "}", method.start());
            long lines = code.substring(method.start(), end).lines().count();
            due.is("lines of " + method.group().trim(), lines <= 60, true);
            many++;
        }
        due.is("methods are found", many > 100, true);
    }

    /** What 512 of the dearest calls leave behind, as nothing is ever given back. */
    private static void room() {
        com.sun.management.ThreadMXBean threads =
                (com.sun.management.ThreadMXBean) java.lang.management.ManagementFactory.getThreadMXBean();
        // The first one loads classes, which are not of the room.
        new OwnRain().text();
        long before = threads.getThreadAllocatedBytes(Thread.currentThread().getId());
        OwnRain x = new OwnRain();
        long made = threads.getThreadAllocatedBytes(Thread.currentThread().getId());
        for (int i = 0; i < 256; i++) {
            x.text();
            x.back();
        }
        long after = threads.getThreadAllocatedBytes(Thread.currentThread().getId());
        System.out.println("bytes for an object: " + (made - before) + ", for 512 calls: " + (after - made));
        due.is("an object is small", made - before < 100000, true);
        due.is("calls are small", after - made < 3000000, true);
    }
}
