import java.io.IOException;
import java.net.URL;
import java.net.URLClassLoader;
import java.nio.file.Files;
import java.nio.file.Path;
import java.util.Comparator;
import java.util.List;
import java.util.Set;
import java.util.TreeSet;
import java.util.regex.Matcher;
import java.util.regex.Pattern;
import java.util.stream.Stream;
import javax.tools.ToolProvider;

/**
 * The Java parts of README.md, one behind the other as one run: each call answers what stands behind it, and each
 * call of the face is shown there.
 */
public final class ReadmeTest {
    private static final Pattern PART = Pattern.compile("(?s)```java\n(.*?)```");
    private static final Pattern CALL = Pattern.compile("(x\\.(\\w+)\\(.*\\));\\s+// (-?\\d+|NONE|BAD|STATE|FULL): .+");
    private static int checks = 0;
    private static int wrong = 0;

    public static void main(String[] args) throws Exception {
        String page = Files.readString(Path.of("README.md"));
        Path out = Files.createTempDirectory("readme");
        try {
            runAll(sourceOf(page), out);
        } finally {
            remove(out);
        }
        System.out.println(checks + " checks, " + wrong + " wrong");
        if (wrong != 0) {
            System.exit(1);
        }
    }

    /** Called by what is made of the page. */
    public static void due(String call, long got, long want) {
        checks++;
        if (got != want) {
            wrong++;
            System.out.println("README.md: " + call + " answered " + got + ", there stands " + want);
        }
    }

    private static String sourceOf(String page) {
        StringBuilder b = new StringBuilder("public final class Shown {\n    public static void run() {\n");
        Set<String> shown = new TreeSet<>();
        Matcher part = PART.matcher(page);
        while (part.find()) {
            for (String line : part.group(1).split("\n")) {
                Matcher call = CALL.matcher(line.trim());
                if (call.matches()) {
                    shown.add(call.group(2));
                    String want = call.group(3);
                    String due = want.matches("[A-Z]+") ? "RumourBrew." + want : want + "L";
                    b.append("ReadmeTest.due(\"").append(call.group(1).replace("\"", "\\\"")).append("\", ");
                    b.append(call.group(1)).append(", ").append(due).append(");\n");
                } else {
                    b.append(line).append('\n');
                }
            }
        }
        for (java.lang.reflect.Method m : RumourBrew.class.getDeclaredMethods()) {
            if (java.lang.reflect.Modifier.isPublic(m.getModifiers())) {
                due("is " + m.getName() + " shown", shown.contains(m.getName()) ? 1 : 0, 1);
            }
        }
        return b.append("    }\n}\n").toString();
    }

    private static void runAll(String source, Path out) throws Exception {
        Path file = Files.writeString(out.resolve("Shown.java"), source);
        String classes = System.getProperty("java.class.path");
        int failed = ToolProvider.getSystemJavaCompiler().run(null, null, null, "-cp", classes, "-d", out.toString(),
                file.toString());
        due("the page compiles", failed, 0);
        if (failed == 0) {
            try (URLClassLoader loader = new URLClassLoader(new URL[] {out.toUri().toURL()})) {
                loader.loadClass("Shown").getMethod("run").invoke(null);
            }
        }
    }

    private static void remove(Path out) throws IOException {
        try (Stream<Path> files = Files.walk(out)) {
            List<Path> all = files.sorted(Comparator.reverseOrder()).toList();
            for (Path file : all) {
                Files.delete(file);
            }
        }
    }
}
