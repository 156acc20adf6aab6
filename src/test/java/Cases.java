import java.lang.reflect.InvocationTargetException;
import java.lang.reflect.Method;
import java.util.Map;
import java.util.TreeMap;
import java.util.regex.Matcher;
import java.util.regex.Pattern;

/** What the tests of bounds share: each method promiseNN_case of a class is a test of its own, told by its name. */
abstract class Cases {
    static final int NONE = -1000000, BAD = -1000001, STATE = -1000002, FULL = -1000003;
    static final int NULL = -1000011, PLACE = -1000012, KIND = -1000013, SIZE = -1000014, STORE = -1000015;
    static final int LEAST = Integer.MIN_VALUE, MOST = Integer.MAX_VALUE;
    static final int ALL_MALTS = (1 << 21) - 1;

    /** Whoever is told believes; nobody tells anybody. */
    static final String APART = "o0,40,1;d0,0;d0,1;d0,2;d0,3;d0,4;d0,5;";
    /** Two that believe all, and tell nobody. */
    static final String TWO = "o0,40,1;d0,0;d0,1;";
    /** One who never believes. */
    static final String ONE_BOY = "o0,40,1;b0,0;";
    /** A plain one, a gossip, a wife, a boy and a rat in a chain. */
    static final String CHAIN = "o2,5,3;d4,1;g3,0;w2,0;b0,0;r0,0;t0,1;t1,2;t2,3;t3,4;";

    private static final Pattern NAME = Pattern.compile("promise(\\d\\d)_\\w+");
    private static String name = "";
    private static int checks = 0;
    private static int wrong = 0;

    /** Ends with 1 if a case fails, or if a promise of these has none. */
    static void run(Class<?> tests, int first, int last) throws IllegalAccessException {
        Map<String, Method> byName = new TreeMap<>();
        boolean[] hasCase = new boolean[100];
        for (Method m : tests.getDeclaredMethods()) {
            Matcher found = NAME.matcher(m.getName());
            if (found.matches()) {
                byName.put(m.getName(), m);
                hasCase[Integer.parseInt(found.group(1))] = true;
            }
        }
        for (Method m : byName.values()) {
            runCase(m);
        }
        for (int promise = first; promise <= last; promise++) {
            name = tests.getName();
            due("promise " + promise + " has a case", hasCase[promise] ? 1 : 0, 1);
        }
        System.out.println(byName.size() + " cases, " + checks + " checks, " + wrong + " wrong");
        if (wrong != 0) {
            System.exit(1);
        }
    }

    private static void runCase(Method m) throws IllegalAccessException {
        name = m.getName();
        int before = checks;
        m.setAccessible(true);
        try {
            m.invoke(null);
        } catch (InvocationTargetException e) {
            wrong++;
            System.out.println(name + " threw " + e.getCause());
        }
        if (checks == before) {
            wrong++;
            System.out.println(name + " checks nothing");
        }
    }

    static void due(String call, long got, long want) {
        checks++;
        if (got != want) {
            wrong++;
            System.out.println(name + ": " + call + " answered " + got + ", due is " + want);
        }
    }

    static RumourBrew fed(RumourBrew x, String text) {
        for (int i = 0; i < text.length(); i++) {
            x.feed(text.charAt(i));
        }
        return x;
    }

    static RumourBrew in(String text) {
        RumourBrew x = fed(new RumourBrew(), text);
        if (x.town() < 1) {
            due("town of " + text, x.fault(), 0);
        }
        return x;
    }

    static void fill(RumourBrew x, int row, int lane, int... items) {
        x.row(row, lane, items.length);
        for (int i = 0; i < items.length; i++) {
            x.set(row, i, items[i]);
        }
    }

    /** A town APART with a cask, in which item() can tell what an ITEM is. */
    static RumourBrew withReadableRows() {
        RumourBrew x = in(APART);
        x.brew(0, 20);
        return x;
    }

    /** No call reads an ITEM; but a DRINKER's number is told by who would believe at it. ROW 7 is used for it. */
    static int item(RumourBrew x, int row, int lane, int i) {
        x.row(7, lane, 2);
        if (x.copy(row, i, 7, 0, 1) != 1) {
            return NONE;
        }
        for (int drinker = 0; drinker < 6; drinker++) {
            x.set(7, 1, 1 << drinker);
            int malts = x.malts(0, 7, 0, 1);
            if (malts == BAD) {
                return BAD;
            }
            if (malts != 0) {
                return drinker;
            }
        }
        return NONE;
    }

    static void items(RumourBrew x, int row, int lane, int... want) {
        for (int i = 0; i < want.length; i++) {
            due("item " + i + " of row " + row, item(x, row, lane, i), want[i]);
        }
    }

    /** A number's bytes, shorts and ints differ, so that it tells the LANE. */
    static int laneOf(RumourBrew x, int row, int i) {
        int cut = x.set(row, i, 70000);
        return cut == 112 ? 0 : cut == 4464 ? 1 : cut == 70000 ? 2 : NONE;
    }
}
