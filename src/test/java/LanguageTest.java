import java.io.IOException;
import java.lang.reflect.Field;
import java.lang.reflect.Method;
import java.lang.reflect.Modifier;
import java.nio.file.Files;
import java.nio.file.Path;
import java.util.ArrayDeque;
import java.util.Deque;
import java.util.List;
import java.util.Random;
import java.util.Set;
import java.util.TreeSet;
import java.util.regex.Matcher;
import java.util.regex.Pattern;

/**
 * What LANGUAGE.md asks of the source and can be seen by simple means: the face, the words that may not stand there,
 * how long methods are; that a call makes no objects, and that wild arguments are answered in every state.
 */
public final class LanguageTest {
    private static final Path SOURCE = Path.of("src/main/java/RumourBrew.java");
    private static final Set<String> FACE = Set.of("row(int,int,int)int", "set(int,int,int)int",
            "copy(int,int,int,int,int)int", "drop(int)int", "feed(int)int", "town()int", "fault()int", "undo()int",
            "brew(int,int)int", "days(int)int", "tap(int,int)int", "water(int)int", "blend(int,int)int",
            "cask(int,int)int", "drinker(int,int)int", "rumour(int)int", "telling(int,int,int)int",
            "fewest(int,int,int,int)int", "silence(int,int,int,int)int", "malts(int,int,int,int)int",
            "who(int,int,int,int,int)int", "goesOff(int,int)int", "best(int,int)int", "blended(int,int,int)int",
            "silent(int,int,int,int,int)long", "drawn(int,int,int)int", "image(int)int", "restore(int)int",
            "kind(int)int", "as(int,int)int", "ask(int,int)int", "trace(int)int", "count(int)int", "status()int");

    private static int wrong = 0;

    public static void main(String[] args) throws Exception {
        faceStands();
        wordsAreAllowed();
        methodsAreShort();
        objectsAreMadeAtFirst();
        wildCallsAreAnswered();
        System.out.println(wrong == 0 ? "the language is kept" : wrong + " rules are broken");
        if (wrong != 0) {
            System.exit(1);
        }
    }

    private static void need(boolean fine, String what) {
        if (!fine) {
            wrong++;
            System.out.println(what);
        }
    }

    private static void faceStands() {
        Set<String> face = new TreeSet<>();
        Set<String> names = new TreeSet<>();
        for (Method m : RumourBrew.class.getDeclaredMethods()) {
            if (Modifier.isPublic(m.getModifiers())) {
                StringBuilder types = new StringBuilder();
                for (Class<?> type : m.getParameterTypes()) {
                    types.append(types.length() == 0 ? "" : ",").append(type);
                }
                face.add(m.getName() + "(" + types + ")" + m.getReturnType());
                names.add(m.getName());
            }
        }
        need(face.equals(FACE), "the face is " + face);
        need(Modifier.isFinal(RumourBrew.class.getModifiers()), "the class is not final");
        for (Class<?> c : allClasses()) {
            for (Method m : c.getDeclaredMethods()) {
                boolean isFace = c == RumourBrew.class && Modifier.isPublic(m.getModifiers());
                need(isFace || m.isSynthetic() || !names.contains(m.getName()), m + " bears a public name");
                need(c != RumourBrew.class || isFace || m.isSynthetic() || Modifier.isPrivate(m.getModifiers()),
                        m + " is not private");
                need(m.getParameterCount() <= 7, m + " takes more than seven");
            }
            for (Field f : c.getDeclaredFields()) {
                need(!Modifier.isStatic(f.getModifiers()) || Modifier.isFinal(f.getModifiers()), f + " is not final");
                boolean isFace = Set.of("NONE", "BAD", "STATE", "FULL").contains(f.getName());
                need(c != RumourBrew.class || isFace || Modifier.isPrivate(f.getModifiers()), f + " is not private");
            }
            need(c == RumourBrew.class || Modifier.isStatic(c.getModifiers()), c + " is not static");
        }
        need(allClasses().size() <= 12, "there are more than twelve classes");
    }

    private static List<Class<?>> allClasses() {
        List<Class<?>> all = new java.util.ArrayList<>(List.of(RumourBrew.class.getDeclaredClasses()));
        all.add(RumourBrew.class);
        return all;
    }

    private static String code() throws IOException {
        return Files.readString(SOURCE).replaceAll("(?s)/\\*.*?\\*/", "").replaceAll("//[^\n]*", "");
    }

    private static void wordsAreAllowed() throws IOException {
        String words = "throw|try|catch|synchronized|assert|protected|yield|var|native|package|float|double";
        for (String pattern : List.of("\\b(" + words + ")\\b", "->", "::", "import (?!java\\.util\\.Arrays;)",
                "static \\{", "System\\.(?!arraycopy)", "\\w+Exact\\b", "\\.(equals|hashCode|toString)\\(")) {
            Matcher found = Pattern.compile(pattern).matcher(code());
            need(!found.find(), "the source has " + pattern);
        }
    }

    private static void methodsAreShort() throws IOException {
        int start = 0;
        String name = "";
        Deque<Integer> depths = new ArrayDeque<>();
        List<String> lines = Files.readAllLines(SOURCE);
        for (int i = 0; i < lines.size(); i++) {
            String line = lines.get(i);
            need(line.length() <= 120, "line " + (i + 1) + " is long");
            if (line.matches("(    |        )[^ *}/].*\\(.*\\) \\{")) {
                start = i;
                name = line.trim();
                depths.push(line.indexOf(line.trim()));
            } else if (!depths.isEmpty() && line.matches(" {" + depths.peek() + "}}")) {
                depths.pop();
                need(i - start < 60, name + " is long");
            }
        }
    }

    private static void objectsAreMadeAtFirst() throws IOException {
        for (String line : code().split("\n")) {
            boolean isField = line.matches("    (    )?private (final )?\\w+(\\[])* \\w+ = .*;");
            need(!line.matches(".*\\bnew\\b.*") || isField, "made by a call: " + line.trim());
        }
    }

    private static int wild(Random random) {
        int[] edges = {Integer.MIN_VALUE, Integer.MIN_VALUE + 1, Integer.MAX_VALUE, Integer.MAX_VALUE - 1, -1, 1 << 30};
        return random.nextInt(3) > 0 ? random.nextInt(7) : edges[random.nextInt(edges.length)];
    }

    /** Whatever throws ends this test by itself. */
    private static void wildCallsAreAnswered() throws Exception {
        String text = "o3,9,2;d4,2;g3,5;w2,3;b0,0;r0,0;d6,0;t0,1;t1,2;t1,3;t3,5;t2,0;t4,0;t5,4;t5,3;t0,2;t2,1;";
        Method[] face = java.util.Arrays.stream(RumourBrew.class.getDeclaredMethods())
                .filter(m -> Modifier.isPublic(m.getModifiers()))
                .sorted(java.util.Comparator.comparing(Method::getName)).toArray(Method[]::new);
        for (int seed = 0; seed < 60; seed++) {
            Random random = new Random(seed);
            RumourBrew x = new RumourBrew();
            for (int i = 0; i < text.length() && seed % 3 > 0; i++) {
                x.feed(text.charAt(i));
            }
            need(seed % 3 == 0 || x.town() == 6, "the town is not read");
            for (int k = 0; k < 400; k++) {
                Method m = face[random.nextInt(face.length)];
                Object[] arguments = new Object[m.getParameterCount()];
                for (int i = 0; i < arguments.length; i++) {
                    arguments[i] = wild(random);
                }
                m.invoke(x, arguments);
            }
        }
    }
}
