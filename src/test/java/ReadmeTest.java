import java.io.IOException;
import java.nio.file.Files;
import java.nio.file.Path;
import java.util.ArrayList;
import java.util.List;
import java.util.TreeSet;
import java.util.regex.Matcher;
import java.util.regex.Pattern;
import java.util.stream.Stream;
import javax.tools.JavaCompiler;
import javax.tools.ToolProvider;

/** That what README.md says is so: its examples are compiled and run, its calls and tests are those there are. */
public final class ReadmeTest {
    private static final Due due = new Due();

    public static void main(String[] args) throws IOException, ReflectiveOperationException {
        String page = Files.readString(Path.of("README.md"));
        due.about("README.md");
        examples(page);
        calls(page);
        tests(page);
        due.close();
    }

    private static List<String> blocks(String page, String language) {
        List<String> blocks = new ArrayList<>();
        Matcher block = Pattern.compile("(?s)```" + language + "\n(.*?)```").matcher(page);
        while (block.find()) {
            blocks.add(block.group(1));
        }
        return blocks;
    }

    /** A block is a method of its own, or the lines of one; behind // is the answer that is due. */
    private static void examples(String page) throws IOException, ReflectiveOperationException {
        StringBuilder source = new StringBuilder("final class Examples {\n");
        int many = 0;
        for (String block : blocks(page, "java")) {
            if (block.startsWith("static ")) {
                source.append(block);
            } else {
                source.append("static void block").append(many++).append("(Due due) {\n");
                block.lines().forEach(line -> source.append(asked(line)).append('\n'));
                source.append("}\n");
            }
        }
        due.is("examples", many >= 4, true);
        Class<?> examples = compiled(source.append("}\n").toString());
        for (int i = 0; i < many; i++) {
            examples.getDeclaredMethod("block" + i, Due.class).invoke(null, due);
        }
    }

    private static String asked(String line) {
        Matcher call = Pattern.compile("(.+); *// *(-?\\d+|true|false)\\b.*").matcher(line);
        if (!call.matches()) {
            due.is("an answer behind: " + line, line.equals("OwnRain x = new OwnRain();"), true);
            return line;
        }
        String shown = call.group(1).replace("\"", "'");
        return "due.is(\"" + shown + "\", " + call.group(1) + ", " + call.group(2) + ");";
    }

    private static Class<?> compiled(String source) throws IOException, ReflectiveOperationException {
        Path folder = Files.createTempDirectory("readme");
        try {
            Path file = Files.writeString(folder.resolve("Examples.java"), source);
            JavaCompiler compiler = ToolProvider.getSystemJavaCompiler();
            String here = System.getProperty("java.class.path");
            due.is("examples compile", compiler.run(null, null, null, "-cp", here, "-d", folder.toString(), file.toString()), 0);
            byte[] bytes = Files.readAllBytes(folder.resolve("Examples.class"));
            // Beside the classes here, so that Due, which is not public, can be used.
            return java.lang.invoke.MethodHandles.lookup().defineClass(bytes);
        } finally {
            try (Stream<Path> files = Files.list(folder)) {
                files.forEach(file -> file.toFile().delete());
            }
            Files.delete(folder);
        }
    }

    /** Each call of the document's face is in the table, with its arguments' names. */
    private static void calls(String page) throws IOException {
        String document = Files.readString(Path.of("../shared/DOC.md"));
        Matcher method = Pattern.compile("(?m)^    public (?:int|long|boolean) (\\w+)\\((.*)\\);$").matcher(document);
        int many = 0;
        while (method.find()) {
            String call = "`" + method.group(1) + "(" + method.group(2).replaceAll("\\w+ (\\w+)", "$1") + ")`";
            due.is(call + " is told", page.contains(call), true);
            many++;
        }
        due.is("calls", many, 41);
    }

    private static void tests(String page) throws IOException {
        TreeSet<String> told = new TreeSet<>();
        Matcher row = Pattern.compile("(?m)^\\| `(\\w+Test)` \\|").matcher(page);
        while (row.find()) {
            told.add(row.group(1) + ".java");
        }
        TreeSet<String> there = new TreeSet<>();
        try (Stream<Path> files = Files.list(Path.of("src/test/java"))) {
            files.filter(Files::isRegularFile).forEach(file -> there.add(file.getFileName().toString()));
        }
        due.is(told + " by the side of " + there, told.equals(there), true);
        try (Stream<Path> files = Files.list(Path.of("src/test/java/support"))) {
            files.forEach(file -> {
                String name = file.getFileName().toString().replace(".java", "");
                due.is(name + " is told", page.contains("`" + name + "`"), true);
            });
        }
        for (String block : blocks(page, "sh")) {
            Matcher path = Pattern.compile("(?:src|\\.ci)/\\S+").matcher(block);
            while (path.find()) {
                due.is(path.group() + " is there", Files.exists(Path.of(path.group())), true);
            }
        }
    }
}
