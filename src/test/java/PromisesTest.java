/**
 * Each promise of the document by hand: ordinary calls, the edges that the document names, and wrong inputs.
 * The answers were worked out from the document, not taken from the program.
 */
public final class PromisesTest {
    private static final int NONE = -1000000, BAD = -1000001, STATE = -1000002, FULL = -1000003;
    private static final int NULL = -1000011, PLACE = -1000012, KIND = -1000013, SIZE = -1000014, STORE = -1000015;
    private static final int ALL_MALTS = (1 << 21) - 1;

    /** A plain one, a gossip, a wife, a boy and a rat in a chain; OAK 2, KEEPS 5, EXCISE 3. */
    private static final String CHAIN = "o2,5,3;d4,1;g3,0;w2,0;b0,0;r0,0;t0,1;t1,2;t2,3;t3,4;";
    /** Whoever is told believes; nobody tells anybody. */
    private static final String APART = "o0,40,1;d0,0;d0,1;d0,2;d0,3;d0,4;d0,5;";
    private static final String TWO = "o0,40,1;d0,0;d0,1;";

    private static int wrong = 0;
    private static int promise = 0;
    private static int checks = 0;

    public static void main(String[] args) {
        aNewObject();
        rowsAreMade();
        itemsAreSet();
        itemsAreCopied();
        rowsAreDropped();
        bytesAreFed();
        townsAreRead();
        faultsOfTheLaw();
        faultsOfDrinkersAndTies();
        faultNumbersStay();
        actsAreUndone();
        onlyTheLatestActsAreKept();
        casksAreBrewed();
        daysPass();
        casksAreTapped();
        casksAreWatered();
        casksAreBlended();
        casksAreShown();
        drinkersAreShown();
        rumoursAreShown();
        tellingsGoRound();
        tellingsOfEachKind();
        dislikeOfOneself();
        fewestAreTold();
        silenceIsFound();
        maltsAreFound();
        kindsAreFound();
        casksGoOff();
        bestTaps();
        blendsAreForetold();
        silentTies();
        weeksAreDrawn();
        imagesAreKept();
        kindsAreTold();
        takenAsAKind();
        asksAndTraces();
        countsAreTold();
        statusIsTold();
        constantsStand();
        System.out.println(checks + " checks, " + wrong + " wrong");
        if (wrong != 0) {
            System.exit(1);
        }
    }

    private static void due(String call, long got, long want) {
        checks++;
        if (got != want) {
            wrong++;
            System.out.println("promise " + promise + ": " + call + " answered " + got + ", due is " + want);
        }
    }

    private static RumourBrew feed(RumourBrew x, String text) {
        for (int i = 0; i < text.length(); i++) {
            x.feed(text.charAt(i));
        }
        return x;
    }

    private static RumourBrew in(String text) {
        RumourBrew x = feed(new RumourBrew(), text);
        int drinkers = x.town();
        if (drinkers < 1) {
            due("town of " + text, drinkers, 1);
        }
        return x;
    }

    private static void faulty(String text, int place, int number) {
        RumourBrew x = in(TWO);
        feed(x, text);
        due("town: " + text, x.town(), -1000100 - place);
        due("fault: " + text, x.fault(), number);
        due("drinkers stay: " + text, x.count(1), 2);
        due("tape is empty: " + text, x.count(7), 0);
    }

    /** There is no call that reads an ITEM: in the town APART, cask 0 tells a DRINKER's number by who believes. */
    private static int item(RumourBrew x, int row, int lane, int i) {
        x.row(7, lane, 2);
        x.copy(row, i, 7, 0, 1);
        for (int drinker = 0; drinker < 6; drinker++) {
            x.set(7, 1, 1 << drinker);
            int malts = x.malts(0, 7, 0, 1);
            if (malts == BAD) {
                return BAD;
            }
            if (malts == ALL_MALTS - (drinker == 0 ? 31 : 0)) {
                return drinker;
            }
        }
        return NONE;
    }

    private static RumourBrew withReadableRows() {
        RumourBrew x = in(APART);
        x.brew(0, 20);
        return x;
    }

    private static void aNewObject() {
        promise = 1;
        RumourBrew x = new RumourBrew();
        for (int what = 0; what < 8; what++) {
            due("count(" + what + ")", x.count(what), 0);
        }
        due("fault", x.fault(), 0);
        due("status", x.status(), 0);
        due("trace", x.trace(0), NONE);
        due("undo", x.undo(), STATE);
        due("days", x.days(1), STATE);
        due("brew", x.brew(0, 0), BAD);
        due("cask", x.cask(0, 0), NONE);
        due("image", x.image(0), STATE);
        due("restore", x.restore(0), STATE);
        RumourBrew other = in(TWO);
        due("objects are apart", x.count(1), 0);
        due("objects are apart", other.count(1), 2);
    }

    private static void rowsAreMade() {
        promise = 2;
        RumourBrew x = withReadableRows();
        due("row(0, 0, 0)", x.row(0, 0, 0), 0);
        due("row(7, 2, 40)", x.row(7, 2, 40), 40);
        due("count", x.count(0), 2);
        due("row(-1, 0, 1)", x.row(-1, 0, 1), BAD);
        due("row(8, 0, 1)", x.row(8, 0, 1), BAD);
        due("row(1, -1, 1)", x.row(1, -1, 1), BAD);
        due("row(1, 3, 1)", x.row(1, 3, 1), BAD);
        due("row(1, 0, 41)", x.row(1, 0, 41), BAD);
        due("row(1, 0, -1)", x.row(1, 0, -1), SIZE);
        due("row(1, 0, min)", x.row(1, 0, Integer.MIN_VALUE), SIZE);
        due("row(1, 3, -1)", x.row(1, 3, -1), BAD);
        due("count stays", x.count(0), 2);
        x.row(2, 1, 3);
        x.set(2, 1, 5);
        due("an item", item(x, 2, 1, 1), 5);
        due("row(2, 1, -1)", x.row(2, 1, -1), SIZE);
        due("the row stays", item(x, 2, 1, 1), 5);
        due("row(2, 2, 2)", x.row(2, 2, 2), 2);
        due("items are 0 at first", item(x, 2, 2, 1), 0);
        due("its new size", x.set(2, 2, 0), PLACE);
    }

    private static void itemsAreSet() {
        promise = 3;
        RumourBrew x = new RumourBrew();
        x.row(0, 0, 2);
        x.row(1, 1, 2);
        x.row(2, 2, 2);
        due("byte 127", x.set(0, 0, 127), 127);
        due("byte 128", x.set(0, 1, 128), -128);
        due("byte 511", x.set(0, 1, 511), -1);
        due("byte -129", x.set(0, 1, -129), 127);
        due("short 32767", x.set(1, 0, 32767), 32767);
        due("short 32768", x.set(1, 1, 32768), -32768);
        due("short -32769", x.set(1, 1, -32769), 32767);
        due("int", x.set(2, 0, Integer.MIN_VALUE), Integer.MIN_VALUE);
        due("int", x.set(2, 1, 123456789), 123456789);
        due("place below", x.set(0, -1, 0), PLACE);
        due("place behind", x.set(0, 2, 0), PLACE);
        due("place far behind", x.set(0, Integer.MAX_VALUE, 0), PLACE);
        due("missing", x.set(3, -1, 0), NULL);
        due("no row", x.set(8, 0, 0), BAD);
        due("no row", x.set(-1, 0, 0), BAD);
        x.row(4, 0, 0);
        due("an empty row", x.set(4, 0, 0), PLACE);
    }

    private static void itemsAreCopied() {
        promise = 4;
        RumourBrew x = withReadableRows();
        x.row(0, 2, 6);
        x.row(1, 2, 4);
        x.row(2, 1, 4);
        for (int i = 0; i < 6; i++) {
            x.set(0, i, i);
        }
        due("to another", x.copy(0, 2, 1, 0, 3), 3);
        due("item", item(x, 1, 2, 0), 2);
        due("item", item(x, 1, 2, 2), 4);
        due("item", item(x, 1, 2, 3), 0);
        due("upwards in itself", x.copy(0, 0, 0, 1, 5), 5);
        for (int i = 1; i < 6; i++) {
            due("item " + i, item(x, 0, 2, i), i - 1);
        }
        due("downwards in itself", x.copy(0, 2, 0, 1, 4), 4);
        for (int i = 1; i < 5; i++) {
            due("item " + i, item(x, 0, 2, i), i);
        }
        due("none, at the end", x.copy(0, 6, 1, 4, 0), 0);
        due("beyond a's end", x.copy(0, 4, 1, 0, 3), PLACE);
        due("beyond b's end", x.copy(0, 0, 1, 2, 3), PLACE);
        due("i below", x.copy(0, -1, 1, 0, 1), PLACE);
        due("j below", x.copy(0, 0, 1, -1, 1), PLACE);
        due("n below", x.copy(0, 0, 1, 0, -1), PLACE);
        due("n far beyond", x.copy(0, 1, 1, 1, Integer.MAX_VALUE), PLACE);
        due("i far beyond", x.copy(0, Integer.MAX_VALUE, 1, 0, 1), PLACE);
        due("none, behind the end", x.copy(0, 7, 1, 0, 0), PLACE);
        due("two lanes", x.copy(0, 0, 2, 0, 1), STORE);
        due("two lanes, ahead of place", x.copy(0, -1, 2, 0, 99), STORE);
        due("two lanes, no items", x.copy(0, 0, 2, 0, 0), STORE);
        due("a missing", x.copy(5, 0, 1, 0, 1), NULL);
        due("b missing", x.copy(0, -1, 5, 0, 1), NULL);
        due("no row a", x.copy(8, 0, 5, 0, 1), BAD);
        due("no row b", x.copy(5, 0, -1, 0, 1), BAD);
        due("nothing changed", item(x, 1, 2, 0), 2);
    }

    private static void rowsAreDropped() {
        promise = 5;
        RumourBrew x = new RumourBrew();
        x.row(3, 1, 17);
        due("drop", x.drop(3), 17);
        due("count", x.count(0), 0);
        due("again", x.drop(3), NULL);
        due("status", x.status(), 1);
        x.row(3, 0, 0);
        due("an empty one", x.drop(3), 0);
        due("status", x.status(), 0);
        due("no row", x.drop(8), BAD);
        due("no row", x.drop(-1), BAD);
    }

    private static void bytesAreFed() {
        promise = 6;
        RumourBrew x = new RumourBrew();
        due("0", x.feed(0), 1);
        due("255", x.feed(255), 2);
        due("256", x.feed(256), BAD);
        due("-1", x.feed(-1), BAD);
        due("count", x.count(7), 2);
        for (int n = 3; n <= 120; n++) {
            due("feed", x.feed('a'), n);
        }
        due("full", x.feed('a'), FULL);
        due("BAD ahead of FULL", x.feed(-1), BAD);
        due("count", x.count(7), 120);
    }

    private static void townsAreRead() {
        promise = 7;
        RumourBrew x = feed(new RumourBrew(), CHAIN);
        due("town", x.town(), 5);
        due("drinkers", x.count(1), 5);
        due("ties", x.count(2), 4);
        due("tape", x.count(7), 0);
        due("no fault yet", x.fault(), 0);
        x.brew(0, 20);
        x.days(3);
        x.tap(0, 1);
        feed(x, "o20,40,09;d12,05;");
        due("the most of all", x.town(), 1);
        due("DOUBT", x.drinker(0, 0), 12);
        due("DISLIKES one not told", x.drinker(0, 1), 5);
        for (int what = 2; what < 8; what++) {
            due("count(" + what + ")", x.count(what), 0);
        }
        due("undo", x.undo(), STATE);
        due("rumour", x.rumour(0), 0);
        due("a drinker less", x.rumour(1), BAD);
        x.brew(0, 20);
        due("OAK", x.goesOff(0, 1), 20);
        due("KEEPS", x.goesOff(0, 0), 41);
        due("EXCISE", x.telling(0, 1, 3), 9);
        feed(x, "o0,1,0;d0,0;g0,1;w0,2;b0,3;r0,4;d0,5;"
                + "t0,1;t1,0;t0,2;t2,0;t0,3;t3,0;t0,4;t4,0;t0,5;t5,00;");
        due("six and ten", x.town(), 6);
        due("ties", x.count(2), 10);
        due("hearers", x.drinker(0, 2), 62);
        due("the tape is read anew", x.town(), -1000100);
        due("the town stays", x.count(1), 6);
    }

    private static void faultsOfTheLaw() {
        promise = 7;
        faulty("", 0, 1);
        faulty("d0,0;", 0, 1);
        faulty("o", 1, 1);
        faulty("oo", 1, 1);
        faulty("o,", 1, 1);
        faulty("o21,1,0;d0,0;", 1, 2);
        faulty("o000,1,0;d0,0;", 1, 1);
        faulty("o123456", 1, 1);
        faulty("o1;", 2, 1);
        faulty("o1,", 3, 1);
        faulty("o1,0,0;d0,0;", 3, 2);
        faulty("o1,41,0;d0,0;", 3, 2);
        faulty("o1,00;", 3, 2);
        faulty("o1,1;0;d0,0;", 4, 1);
        faulty("o1,1,10;d0,0;", 5, 2);
        faulty("o1,1,1,d0,0;", 6, 1);
        faulty("o1,1,1;", 7, 1);
        faulty("o1,1,1;o1,1,1;d0,0;", 7, 1);
        faulty("o1,1,1;t0,1;", 7, 1);
        faulty("o 1,1,1;d0,0;", 1, 1);
        faulty("O1,1,1;d0,0;", 0, 1);
        faulty("o-1,1,1;d0,0;", 1, 1);
    }

    private static void faultsOfDrinkersAndTies() {
        promise = 7;
        faulty("o0,1,0;z0,0;", 7, 1);
        faulty("o0,1,0;d13,0;", 8, 2);
        faulty("o0,1,0;d0,6;", 10, 2);
        faulty("o0,1,0;d0;", 9, 1);
        faulty("o0,1,0;d0,0", 11, 1);
        faulty("o0,1,0;d0,0;x", 12, 1);
        faulty("o0,1,0;d0,0;5", 12, 1);
        faulty("o0,1,0;d0,0;t0,0;", 15, 2);
        faulty("o0,1,0;d0,0;t1,0;", 13, 2);
        faulty("o0,1,0;d0,0;d0,0;t0,2;", 20, 2);
        faulty("o0,1,0;d0,0;d0,0;t0,1;t0,1;", 25, 2);
        faulty("o0,1,0;d0,0;d0,0;t0,1;t1,0;t1,0", 30, 2);
        faulty("o0,1,0;d0,0;d0,0;t0,1", 21, 1);
        faulty("o0,1,0;d0,0;d0,0;t0,1;d0,0;", 22, 1);
        faulty("o0,1,0;d0,0;d0,0;t0,1;t", 23, 1);
        faulty("o0,1,0;d0,0;d0,0;t0,111;", 20, 1);
        String six = "o0,1,0;d0,0;d0,0;d0,0;d0,0;d0,0;d0,0;";
        faulty(six + "d0,0;", 37, 3);
        faulty(six + "d", 37, 3);
        faulty(six + "z", 37, 1);
        String ten = six + "t0,1;t0,2;t0,3;t0,4;t0,5;t1,0;t1,2;t1,3;t1,4;t1,5;";
        faulty(ten + "t2,0;", 87, 3);
        faulty(ten + "t", 87, 3);
        faulty(ten + "d", 87, 1);
        faulty(ten + (char) 255, 87, 1);
    }

    private static void faultNumbersStay() {
        promise = 8;
        RumourBrew x = new RumourBrew();
        due("none yet", x.fault(), 0);
        feed(x, "o21,").town();
        due("a number", x.fault(), 2);
        feed(x, TWO);
        due("a town", x.town(), 2);
        due("still the latest", x.fault(), 2);
        x.town();
        due("the end", x.fault(), 1);
    }

    private static void actsAreUndone() {
        promise = 9;
        RumourBrew x = in(TWO);
        due("none", x.undo(), STATE);
        x.brew(0, 9);
        x.brew(1, 8);
        x.days(2);
        x.tap(0, 1);
        x.water(1);
        x.blend(0, 1);
        due("acts", x.count(6), 7);
        due("blend undone", x.undo(), 6);
        due("malt", x.cask(0, 1), 8);
        due("malt", x.cask(1, 1), 4);
        due("water undone", x.undo(), 5);
        due("malt", x.cask(1, 1), 8);
        due("noted", x.rumour(0), 2);
        due("tap undone", x.undo(), 4);
        due("malt", x.cask(0, 1), 9);
        due("not noted", x.rumour(0), 0);
        due("a day undone", x.undo(), 3);
        due("day", x.count(4), 1);
        due("age", x.cask(0, 2), 1);
        due("a day undone", x.undo(), 2);
        due("a brew undone", x.undo(), 1);
        due("missing", x.cask(1, 0), NONE);
        due("a brew undone", x.undo(), 0);
        due("missing", x.cask(0, 0), NONE);
        due("none left", x.undo(), STATE);
    }

    private static void onlyTheLatestActsAreKept() {
        promise = 9;
        RumourBrew x = in(TWO);
        x.brew(0, 20);
        x.days(24);
        due("24 at most", x.count(6), 24);
        x.days(3);
        due("24 at most", x.count(6), 24);
        for (int left = 23; left >= 0; left--) {
            due("undo", x.undo(), left);
        }
        due("the oldest are forgotten", x.undo(), STATE);
        due("day", x.count(4), 3);
        due("the cask stays", x.cask(0, 2), 3);
        x.brew(0, 1);
        due("a refusal is no act", x.tap(3, 0), STATE);
        due("acts", x.count(6), 1);
    }

    private static void casksAreBrewed() {
        promise = 10;
        RumourBrew x = in(TWO);
        due("whom", x.brew(2, 1), BAD);
        due("whom", x.brew(-1, 1), BAD);
        due("malt", x.brew(0, 21), BAD);
        due("malt", x.brew(0, -1), BAD);
        for (int cask = 0; cask < 4; cask++) {
            due("brew", x.brew(cask % 2, cask == 0 ? 20 : 0), cask);
        }
        due("full", x.brew(0, 0), FULL);
        due("BAD ahead of FULL", x.brew(0, 21), BAD);
        x.blend(1, 0);
        x.days(1);
        due("the least that is missing", x.brew(1, 7), 1);
        due("whom", x.cask(1, 0), 1);
        due("malt", x.cask(1, 1), 7);
        due("age", x.cask(1, 2), 0);
    }

    private static void daysPass() {
        promise = 11;
        RumourBrew none = new RumourBrew();
        due("STATE ahead of BAD", none.days(0), STATE);
        RumourBrew x = in("o2,5,3;d0,0;");
        due("0", x.days(0), BAD);
        due("25", x.days(25), BAD);
        x.brew(0, 9);
        due("none off", x.days(2), 0);
        x.brew(0, 9);
        due("not yet off", x.days(3), 0);
        due("one off", x.days(1), 1);
        due("both off", x.days(2), 3);
        due("day", x.count(4), 8);
        due("an act each", x.count(6), 10);
        for (int k = 0; k < 41; k++) {
            x.days(24);
        }
        due("day", x.count(4), 992);
        due("full", x.days(8), FULL);
        due("BAD ahead of FULL", x.days(25), BAD);
        due("day stays", x.count(4), 992);
        due("the last", x.days(7), 3);
        due("day", x.count(4), 999);
        due("age", x.cask(0, 2), 999);
        due("full", x.days(1), FULL);
    }

    private static void casksAreTapped() {
        promise = 12;
        RumourBrew x = in(CHAIN);
        due("missing", x.tap(0, 0), STATE);
        due("no cask", x.tap(4, 0), BAD);
        due("no cask", x.tap(-1, 0), BAD);
        due("no drinker", x.tap(0, 5), BAD);
        x.brew(0, 9);
        // STRONG 6: the gossip (9), the wife (7: 3 + 3), the boy 6, the rat 4, all others 2
        due("tap", x.tap(0, 1), 6);
        due("noted", x.rumour(0), 6);
        due("1 less", x.cask(0, 1), 8);
        due("about itself: 6 - 5 is below 4", x.tap(0, 0), 0);
        due("notes stay", x.rumour(0), 6);
        x.brew(1, 0);
        due("0 at least", x.tap(1, 3), 0);
        due("malt", x.cask(1, 1), 0);
        due("acts", x.count(6), 5);
    }

    private static void casksAreWatered() {
        promise = 13;
        RumourBrew x = in(TWO);
        due("missing", x.water(0), STATE);
        due("no cask", x.water(4), BAD);
        due("no cask", x.water(-1), BAD);
        x.brew(0, 7);
        due("half", x.water(0), 3);
        due("half", x.water(0), 1);
        due("half", x.water(0), 0);
        due("half", x.water(0), 0);
        due("malt", x.cask(0, 1), 0);
        due("acts", x.count(6), 5);
    }

    private static void casksAreBlended() {
        promise = 14;
        RumourBrew x = in(TWO);
        x.brew(0, 7);
        x.days(2);
        x.brew(1, 9);
        due("alike", x.blend(1, 1), BAD);
        due("no cask", x.blend(4, 1), BAD);
        due("no cask", x.blend(1, -1), BAD);
        due("alike, missing", x.blend(2, 2), BAD);
        due("missing", x.blend(2, 1), STATE);
        due("missing", x.blend(1, 2), STATE);
        due("blend", x.blend(0, 1), 16);
        due("missing then", x.cask(0, 0), NONE);
        due("whom", x.cask(1, 0), 1);
        due("malt", x.cask(1, 1), 16);
        due("age", x.cask(1, 2), 0);
        x.brew(0, 5);
        due("20 at most", x.blend(1, 0), 20);
        due("casks", x.count(3), 1);
    }

    private static void casksAreShown() {
        promise = 15;
        RumourBrew x = in("o2,3,0;d0,0;d0,0;");
        due("missing", x.cask(0, 4), NONE);
        due("no cask", x.cask(4, 0), BAD);
        due("no cask", x.cask(-1, 0), BAD);
        due("BAD ahead of NONE", x.cask(0, 5), BAD);
        due("BAD ahead of NONE", x.cask(0, -1), BAD);
        x.brew(1, 8);
        int[][] byAge = {{1, 8, 0, 6, 0}, {1, 8, 1, 6, 0}, {1, 8, 2, 8, 0}, {1, 8, 3, 8, 0}, {1, 8, 4, 0, 1}};
        for (int[] row : byAge) {
            for (int what = 0; what < 5; what++) {
                due("cask(0, " + what + ") on day " + row[2], x.cask(0, what), row[what]);
            }
            x.days(1);
        }
        RumourBrew young = in("o20,1,0;d0,0;");
        int[] strong = {0, 1, 2, 2, 3, 4, 4, 5};
        for (int malt = 0; malt < 8; malt++) {
            young.brew(0, malt);
            due("a third less of " + malt, young.cask(0, 3), strong[malt]);
            young.undo();
        }
        young.brew(0, 20);
        young.days(2);
        due("OFF, and younger than OAK", young.cask(0, 3), 0);
    }

    private static void drinkersAreShown() {
        promise = 16;
        RumourBrew x = in("o0,1,0;d12,5;g3,1;r0,0;t0,2;t2,0;t0,1;");
        due("DOUBT", x.drinker(0, 0), 12);
        due("DISLIKES", x.drinker(0, 1), 5);
        due("tells", x.drinker(0, 2), 6);
        due("its own number", x.drinker(1, 1), 1);
        due("tells nobody", x.drinker(1, 2), 0);
        due("a rat, by ties", x.drinker(2, 2), 1);
        due("no drinker", x.drinker(3, 0), BAD);
        due("no drinker", x.drinker(-1, 0), BAD);
        due("what", x.drinker(0, 3), BAD);
        due("what", x.drinker(0, -1), BAD);
    }

    private static void rumoursAreShown() {
        promise = 17;
        RumourBrew x = in(APART);
        x.brew(0, 9);
        x.brew(1, 9);
        x.tap(0, 1);
        x.tap(0, 3);
        x.tap(1, 5);
        due("of 0", x.rumour(0), 10);
        due("of 1", x.rumour(1), 32);
        due("of 2", x.rumour(2), 0);
        due("no drinker", x.rumour(6), BAD);
        due("no drinker", x.rumour(-1), BAD);
    }

    private static void telling(RumourBrew x, int cask, int some, int... four) {
        for (int what = 0; what < 4; what++) {
            due("telling(" + cask + ", " + some + ", " + what + ")", x.telling(cask, some, what), four[what]);
        }
    }

    private static void tellingsGoRound() {
        promise = 18;
        RumourBrew x = in(CHAIN);
        due("some 0", x.telling(0, 0, 0), BAD);
        due("some beyond", x.telling(0, 32, 0), BAD);
        due("some below", x.telling(0, -1, 0), BAD);
        due("what", x.telling(0, 1, 4), BAD);
        due("what", x.telling(0, 1, -1), BAD);
        due("no cask", x.telling(4, 1, 0), BAD);
        due("missing", x.telling(0, 1, 0), STATE);
        x.brew(0, 9);
        x.brew(1, 9);
        x.brew(2, 9);
        telling(x, 0, 2, 6, 31, 4, 15);
        telling(x, 0, 1, 0, 1, 0, 3);
        telling(x, 1, 1, 1, 3, 1, 6);
        telling(x, 2, 1, 3, 7, 2, 9);
        telling(x, 0, 31, 6, 31, 0, 15);
        due("nothing changes", x.cask(0, 1), 9);
        due("nothing is noted", x.count(5), 0);
        due("no act", x.count(6), 3);
        // 2 does not believe 4 in step 1 and passes nothing on; 5 in step 2 makes it believe, too late for 3
        RumourBrew late = in("o0,9,1;b0,0;g0,1;d5,2;d0,3;t0,2;t0,1;t1,2;t2,3;");
        late.brew(3, 6);
        telling(late, 0, 1, 6, 7, 1, 3);
        // the most STRONG of a step alone counts: 5 by the gossip, not 3
        RumourBrew both = in("o0,9,1;d0,0;d0,1;g0,2;d5,3;d4,4;t0,1;t0,2;t1,3;t2,3;t3,4;");
        both.brew(0, 5);
        both.days(1);
        telling(both, 0, 2, 2, 10, 1, 2);
        both.brew(4, 5);
        telling(both, 1, 1, 15, 31, 3, 5);
    }

    private static void tellingsOfEachKind() {
        promise = 18;
        RumourBrew boy = in("o0,9,1;b0,0;d0,1;t0,1;");
        boy.brew(0, 2);
        telling(boy, 0, 1, 0, 1, 0, 1);
        boy.brew(0, 3);
        telling(boy, 1, 1, 2, 3, 1, 2);
        RumourBrew rat = in("o0,9,1;r0,0;d1,1;d2,2;");
        rat.brew(0, 1);
        telling(rat, 0, 1, 0, 1, 0, 1);
        rat.brew(0, 3);
        telling(rat, 1, 1, 2, 7, 1, 3);
        RumourBrew plain = in("o0,9,1;d0,0;d0,1;t0,1;t1,0;");
        plain.brew(1, 1);
        telling(plain, 0, 1, 1, 1, 0, 1);
        plain.brew(0, 20);
        telling(plain, 1, 2, 3, 3, 1, 2);
        RumourBrew gossip = in("o0,9,1;g0,0;d1,1;g1,2;t0,1;t0,2;");
        gossip.brew(1, 0);
        telling(gossip, 0, 1, 5, 7, 1, 3);
        telling(gossip, 0, 4, 0, 4, 0, 1);
        RumourBrew wife = in("o0,9,1;w3,1;d6,1;t0,1;");
        wife.brew(0, 16);
        telling(wife, 0, 1, 3, 3, 1, 2);
        wife.brew(0, 15);
        telling(wife, 1, 1, 0, 1, 0, 1);
        wife.brew(1, 1);
        telling(wife, 2, 1, 1, 1, 0, 1);
        // a gossip's own saying comes back to it, more STRONG, and is believed then: 5 - 5, then 5 + 1 by the other
        RumourBrew back = in("o0,9,1;b0,0;g1,1;g0,2;t0,1;t0,2;t2,1;");
        back.brew(1, 7);
        telling(back, 0, 1, 6, 7, 1, 3);
    }

    private static void dislikeOfOneself() {
        promise = 18;
        RumourBrew x = in("o0,9,1;d2,0;d2,0;");
        x.brew(0, 6);
        telling(x, 0, 1, 0, 1, 0, 1);
        x.brew(0, 7);
        telling(x, 1, 1, 1, 1, 0, 1);
        x.brew(1, 2);
        telling(x, 2, 1, 1, 1, 0, 1);
        x.brew(0, 0);
        telling(x, 3, 2, 2, 2, 0, 1);
    }

    private static void fewestAreTold() {
        promise = 19;
        RumourBrew x = in("o0,9,1;d0,0;d0,1;d0,2;d9,3;b0,0;t0,1;t2,3;t4,2;");
        due("STATE", x.fewest(0, 1, 0, 0), STATE);
        due("both", x.fewest(0, 3, 1, 0), BAD);
        due("beyond", x.fewest(0, 32, 0, 0), BAD);
        due("beyond", x.fewest(0, 0, 32, 0), BAD);
        due("below", x.fewest(0, -1, 0, 0), BAD);
        due("what", x.fewest(0, 0, 0, 2), BAD);
        due("no cask", x.fewest(4, 0, 0, 0), BAD);
        x.brew(3, 8);
        fewest(x, 0, 0, 0, 0);
        fewest(x, 0, 31, 0, 0);
        fewest(x, 3, 0, 1, 1);
        fewest(x, 2, 0, 1, 1);
        fewest(x, 2, 1, 1, 2);
        fewest(x, 1, 2, NONE, NONE);
        fewest(x, 4, 0, 1, 4);
        fewest(x, 7, 8, 2, 5);
        fewest(x, 8, 0, NONE, NONE);
        fewest(x, 16, 0, NONE, NONE);
        // 0 and 1 (bits 3) come ahead of 2 alone (bits 4), but are more
        RumourBrew star = in("o0,9,1;d0,0;d0,1;d0,2;t2,0;t2,1;");
        star.brew(2, 9);
        fewest(star, 3, 0, 1, 4);
        fewest(star, 3, 4, 2, 3);
        RumourBrew apart = in(APART);
        apart.brew(0, 9);
        fewest(apart, 63, 0, 6, 63);
        due("nothing is noted", x.count(5), 0);
    }

    private static void fewest(RumourBrew x, int to, int not, int many, int which) {
        due("fewest(0, " + to + ", " + not + ", 0)", x.fewest(0, to, not, 0), many);
        due("fewest(0, " + to + ", " + not + ", 1)", x.fewest(0, to, not, 1), which);
    }

    private static void silenceIsFound() {
        promise = 20;
        RumourBrew x = in("o0,9,1;d0,0;d0,1;d0,2;d0,3;r0,0;t0,1;t1,3;t0,2;t2,3;t3,4;");
        due("STATE", x.silence(0, 0, 1, 0), STATE);
        due("alike", x.silence(0, 1, 1, 0), BAD);
        due("no drinker", x.silence(0, 5, 1, 0), BAD);
        due("no drinker", x.silence(0, 0, -1, 0), BAD);
        due("what", x.silence(0, 0, 1, 2), BAD);
        due("no cask", x.silence(-1, 0, 1, 0), BAD);
        x.brew(4, 9);
        silence(x, 0, 0, 3, 2, 5);
        silence(x, 0, 0, 1, 2, 5);
        silence(x, 0, 0, 4, 1, 16);
        silence(x, 0, 1, 0, 1, 2);
        silence(x, 0, 4, 0, NONE, NONE);
        x.brew(4, 1);
        silence(x, 1, 0, 1, 0, 0);
        // ties 0 and 1 (bits 3) come ahead of tie 2 alone (bits 4), but are more
        RumourBrew waist = in("o0,9,1;d0,0;d0,1;d0,2;d0,3;d0,4;t0,1;t0,2;t3,4;t1,3;t2,3;");
        waist.brew(4, 9);
        silence(waist, 0, 0, 4, 1, 4);
        // without tie 0 the saying would come to 3, by the gossip: it does not as it is
        RumourBrew late = in("o0,9,1;b0,0;g0,1;d5,2;d0,3;t0,2;t0,1;t1,2;t2,3;");
        late.brew(3, 6);
        silence(late, 0, 0, 3, 0, 0);
        silence(late, 0, 0, 2, 2, 3);
        due("ties stay", late.count(2), 4);
    }

    private static void silence(RumourBrew x, int cask, int from, int other, int many, int which) {
        String call = "silence(" + cask + ", " + from + ", " + other + ", ";
        due(call + "0)", x.silence(cask, from, other, 0), many);
        due(call + "1)", x.silence(cask, from, other, 1), which);
    }

    /** Drinkers 0 (plain, DOUBT 6) and 1 (plain, DOUBT 8, DISLIKES 0), 0 tells 1; a cask about 0 that is OAK old. */
    private static RumourBrew pair() {
        RumourBrew x = in("o1,9,1;d6,1;d8,0;t0,1;");
        x.brew(0, 12);
        x.days(1);
        return x;
    }

    private static void taps(RumourBrew x, int row, int... items) {
        x.row(row, 0, items.length);
        for (int i = 0; i < items.length; i++) {
            x.set(row, i, items[i]);
        }
    }

    private static void maltsAreFound() {
        promise = 21;
        RumourBrew x = pair();
        taps(x, 0, 9, 0, 3, 1, 2, 1, 0);
        // 0 believes of itself by 11 or more, 1 then what is 1 less, 3 more: always; 1 by itself from 5 on
        due("both", x.malts(0, 0, 1, 1), ALL_MALTS - (1 << 11) + 1);
        due("both, one after another", x.malts(0, 0, 1, 2), ALL_MALTS - (1 << 11) + 1);
        due("1 by itself", x.malts(0, 0, 3, 1), ALL_MALTS - (1 << 5) + 1);
        due("1 not by itself", x.malts(0, 0, 5, 1), 31);
        due("what cannot be", x.malts(0, 0, 3, 2), 0);
        due("nothing changes", x.cask(0, 1), 12);
        due("no drinker", x.malts(0, 0, 0, 1), BAD);
        due("the second one is no drinker", x.malts(0, 0, 2, 2), BAD);
        due("beyond", x.malts(0, 0, 1, 4), PLACE);
        due("beyond", x.malts(0, 0, 6, 1), PLACE);
        due("below", x.malts(0, 0, -1, 1), PLACE);
        due("far beyond", x.malts(0, 0, Integer.MAX_VALUE, 1), PLACE);
        due("missing row", x.malts(0, 1, -1, 1), NULL);
        due("missing cask ahead of that", x.malts(1, 1, -1, 1), STATE);
        due("n 0", x.malts(1, 1, 0, 0), BAD);
        due("n 7", x.malts(0, 0, 0, 7), BAD);
        due("no row", x.malts(1, 8, 0, 1), BAD);
        due("no cask", x.malts(4, 1, 0, 1), BAD);
        taps(x, 2, 0, 3, 0, 3, 0, 3, 0, 3, 0, 3, 0, 3);
        due("six", x.malts(0, 2, 0, 6), ALL_MALTS - (1 << 11) + 1);
        taps(x, 3, 1, 64, 1, -1);
        due("bits of nobody", x.malts(0, 3, 0, 1), 0);
        due("bits of nobody", x.malts(0, 3, 2, 1), 0);
        x.days(9);
        due("OFF: none believes by any", x.malts(0, 2, 0, 1), 0);
        taps(x, 3, 0, 0);
        due("OFF: by any", x.malts(0, 3, 0, 1), ALL_MALTS);
    }

    private static void kindsAreFound() {
        promise = 22;
        RumourBrew x = pair();
        taps(x, 0, 0, 3, 1, 2);
        taps(x, 1, 0, 2);
        taps(x, 2, 0, 0);
        taps(x, 3, 2, 0);
        // 0 hears 12 of itself: 7 is enough for 6; a wife has 6 less 5; a boy tells 10, a rat 6: both enough for 1
        due("0 believes", x.who(0, 0, 0, 0, 1), 6);
        due("0 passes on alone", x.who(0, 0, 1, 0, 1), 48);
        due("nobody", x.who(0, 0, 2, 0, 1), 8);
        due("two taps", x.who(0, 0, 0, 0, 2), 6);
        due("1 is a plain one, a gossip or a wife", x.who(1, 0, 0, 0, 1), 14);
        due("the kind stays", x.kind(0), 1);
        due("no drinker in the row", x.who(0, 0, 3, 0, 1), BAD);
        due("no drinker", x.who(2, 0, 0, 0, 1), BAD);
        due("no drinker", x.who(-1, 0, 0, 0, 1), BAD);
        due("no cask", x.who(0, 4, 0, 0, 1), BAD);
        due("no row", x.who(0, 1, 8, 0, 1), BAD);
        due("n", x.who(0, 1, 0, 0, 0), BAD);
        due("n", x.who(0, 1, 0, 0, 7), BAD);
        due("missing cask", x.who(0, 1, 7, 0, 1), STATE);
        due("missing row", x.who(0, 0, 7, 0, 1), NULL);
        due("beyond", x.who(0, 0, 1, 0, 2), PLACE);
        due("below", x.who(0, 0, 1, -1, 1), PLACE);
    }

    private static void casksGoOff() {
        promise = 23;
        RumourBrew x = in("o3,5,0;d0,0;");
        due("STATE", x.goesOff(0, 0), STATE);
        due("what", x.goesOff(0, 2), BAD);
        due("what", x.goesOff(0, -1), BAD);
        due("no cask", x.goesOff(4, 0), BAD);
        x.brew(0, 1);
        int[][] byAge = {{6, 3}, {5, 2}, {4, 1}, {3, 0}, {2, 0}, {1, 0}, {0, 0}, {0, 0}};
        for (int[] row : byAge) {
            due("goesOff(0, 0)", x.goesOff(0, 0), row[0]);
            due("goesOff(0, 1)", x.goesOff(0, 1), row[1]);
            x.days(1);
        }
    }

    private static void bestTaps() {
        promise = 24;
        RumourBrew x = in("o0,9,1;b0,0;d0,0;d0,0;d0,0;d0,0;t1,2;t3,4;");
        due("STATE", x.best(0, 0), STATE);
        due("what", x.best(0, 2), BAD);
        due("no cask", x.best(-1, 0), BAD);
        x.brew(0, 9);
        due("the first of two", x.best(0, 0), 1);
        due("how many", x.best(0, 1), 2);
        RumourBrew none = in("o0,9,1;b0,0;r0,0;");
        none.brew(0, 0);
        due("nobody", none.best(0, 0), 0);
        due("nobody", none.best(0, 1), 0);
        due("nothing is noted", x.count(5), 0);
    }

    private static void blendsAreForetold() {
        promise = 25;
        RumourBrew x = in("o2,9,1;d7,0;d7,0;t1,0;");
        x.brew(0, 5);
        x.days(2);
        x.brew(1, 6);
        due("alike", x.blended(0, 0, 0), BAD);
        due("no cask", x.blended(0, 4, 0), BAD);
        due("no drinker", x.blended(0, 1, 2), BAD);
        due("no drinker", x.blended(0, 1, -1), BAD);
        due("missing", x.blended(0, 2, 0), STATE);
        due("missing", x.blended(2, 0, 0), STATE);
        // 11, 2 days old, about 0: 1 hears 14, 0 hears 10 of itself; 11, young (8), about 1: 0 believes it
        due("into the old one", x.blended(1, 0, 1), 1);
        due("into the young one", x.blended(0, 1, 0), 1);
        due("into the young one, about 1", x.blended(0, 1, 1), 0);
        x.brew(0, 20);
        x.days(2);
        due("20 at most", x.blended(2, 0, 1), 2);
        due("nothing changes", x.cask(0, 1), 5);
        due("nothing changes", x.count(3), 3);
    }

    private static void silent(RumourBrew x, int from, int other, int p, long above, long below) {
        String call = "silent(0, " + from + ", " + other + ", " + p + ", ";
        due(call + "0)", x.silent(0, from, other, p, 0), above);
        due(call + "1)", x.silent(0, from, other, p, 1), below);
    }

    private static void silentTies() {
        promise = 26;
        RumourBrew x = in("o0,9,1;d0,0;d0,1;d0,2;d0,3;r0,0;t0,1;t1,3;t0,2;t2,3;");
        due("STATE", x.silent(0, 0, 1, 0, 0), STATE);
        due("alike", x.silent(0, 1, 1, 0, 0), BAD);
        due("no drinker", x.silent(0, 5, 1, 0, 0), BAD);
        due("no drinker", x.silent(0, 0, 5, 0, 0), BAD);
        due("p", x.silent(0, 0, 1, -1, 0), BAD);
        due("p", x.silent(0, 0, 1, 11, 0), BAD);
        due("what", x.silent(0, 0, 1, 1, 2), BAD);
        due("no cask", x.silent(4, 0, 1, 1, 0), BAD);
        x.brew(4, 9);
        silent(x, 0, 1, 3, 7, 10);
        silent(x, 0, 3, 5, 7, 16);
        silent(x, 0, 3, 3, 7399, 10000);
        silent(x, 0, 3, 0, 1, 1);
        silent(x, 0, 3, 10, 0, 1);
        silent(x, 0, 4, 5, 0, 1);
        silent(x, 4, 3, 10, 1, 1);
        // all ten ties, and a large numerator: nobody passes to 1 but 0, in 0.9 of cases
        RumourBrew ten = in("o0,9,1;d0,0;d0,1;d0,2;d0,3;d0,4;d0,5;"
                + "t0,1;t1,2;t2,3;t3,4;t4,5;t5,0;t1,0;t2,0;t3,0;t4,0;");
        ten.brew(0, 20);
        ten.brew(5, 20);
        silent(ten, 1, 2, 1, 9, 10);
        silent(ten, 1, 5, 1, 6561, 10000);
        // a tie less can make one believe: without tie 0 the wait for the gossip is worth it
        RumourBrew late = in("o0,9,1;b0,0;g0,1;d5,2;d0,3;t0,2;t0,1;t1,2;t2,3;");
        late.brew(3, 15);
        late.water(0);
        late.tap(0, 1);
        silent(late, 0, 2, 5, 1, 4);
        RumourBrew none = in(TWO);
        none.brew(0, 9);
        silent(none, 0, 1, 5, 0, 1);
    }

    private static void weeksAreDrawn() {
        promise = 27;
        RumourBrew none = new RumourBrew();
        due("STATE ahead of BAD", none.drawn(-1, 0, 5), STATE);
        RumourBrew x = in("o0,1,1;d1,0;d1,1;");
        due("n", x.drawn(-1, 1, 0), BAD);
        due("n", x.drawn(61, 1, 0), BAD);
        due("seed", x.drawn(1, 0, 0), BAD);
        due("seed", x.drawn(1, 1000000, 0), BAD);
        due("what", x.drawn(1, 1, 2), BAD);
        due("no casks", x.drawn(60, 999999, 0), 0);
        x.brew(0, 9);
        x.brew(0, 9);
        x.brew(0, 9);
        x.brew(1, 9);
        // X: 16807, 282475249, 1622650073, 984943658: casks 3, 1, 1, 2 at drinkers 1, 1, 1, 0
        due("0 days", x.drawn(0, 1, 0), 0);
        due("0 days", x.drawn(0, 1, 1), 36);
        due("1 day: of 1 itself", x.drawn(1, 1, 0), 1);
        due("1 day", x.drawn(1, 1, 1), 35);
        due("2 days: of 0", x.drawn(2, 1, 0), 2);
        due("4 days: off from day 2 on", x.drawn(4, 1, 0), 2);
        due("4 days", x.drawn(4, 1, 1), 32);
        due("nothing changes", x.count(5), 0);
        due("nothing changes", x.count(4), 0);
        due("nothing changes", x.count(6), 4);
        due("nothing changes", x.cask(3, 1), 9);
        x.tap(0, 1);
        due("notes from before", x.drawn(2, 1, 0), 2);
        due("malt from before", x.drawn(0, 1, 1), 35);
    }

    private static void imagesAreKept() {
        promise = 28;
        RumourBrew x = new RumourBrew();
        due("BAD ahead of STATE", x.image(2), BAD);
        due("BAD", x.image(-1), BAD);
        due("no town", x.image(0), STATE);
        feed(x, CHAIN).town();
        x.brew(0, 9);
        x.days(2);
        x.tap(0, 1);
        due("image", x.image(1), 1);
        due("acts stay", x.count(6), 4);
        promise = 29;
        due("none kept", x.restore(0), STATE);
        due("BAD", x.restore(2), BAD);
        due("BAD", x.restore(-1), BAD);
        x.row(0, 0, 1);
        feed(x, "o0,1,0;r1,1;").town();
        x.brew(0, 3);
        feed(x, "abc");
        due("restore", x.restore(1), 1);
        due("rows", x.count(0), 1);
        due("drinkers", x.count(1), 5);
        due("ties", x.count(2), 4);
        due("casks", x.count(3), 1);
        due("day", x.count(4), 2);
        due("notes", x.count(5), 2);
        due("no act", x.count(6), 0);
        due("tape", x.count(7), 3);
        due("undo", x.undo(), STATE);
        due("malt", x.cask(0, 1), 8);
        due("law", x.goesOff(0, 0), 4);
        due("kind", x.kind(2), 3);
        x.water(0);
        due("again", x.restore(1), 1);
        due("the image is its own", x.cask(0, 1), 8);
        x.water(0);
        x.image(1);
        x.restore(1);
        due("a later image in its place", x.cask(0, 1), 4);
    }

    private static void kindsAreTold() {
        promise = 30;
        RumourBrew x = in(CHAIN);
        for (int one = 0; one < 5; one++) {
            due("kind(" + one + ")", x.kind(one), one + 1);
        }
        due("no drinker", x.kind(5), BAD);
        due("no drinker", x.kind(-1), BAD);
    }

    private static void takenAsAKind() {
        promise = 31;
        RumourBrew x = in(CHAIN);
        int[] kinds = {3, 7, 11, 17, 49};
        for (int one = 0; one < 5; one++) {
            for (int kind = 0; kind < 6; kind++) {
                boolean is = (kinds[one] >> kind & 1) != 0;
                due("as(" + one + ", " + kind + ")", x.as(one, kind), is ? one : KIND);
                due("status", x.status(), is ? 0 : 3);
            }
        }
        due("kind", x.as(0, 6), BAD);
        due("kind", x.as(0, -1), BAD);
        due("no drinker", x.as(5, 0), BAD);
        due("no drinker", x.as(-1, 0), BAD);
    }

    private static void asked(RumourBrew x, int one, int what, int answer, int... trace) {
        String call = "ask(" + one + ", " + what + ")";
        promise = 32;
        due(call, x.ask(one, what), answer);
        promise = 33;
        for (int i = 0; i < trace.length; i++) {
            due(call + ": trace(" + i + ")", x.trace(i), trace[i]);
        }
        due(call + ": behind the trace", x.trace(trace.length), NONE);
        due(call + ": ahead of the trace", x.trace(-1), NONE);
    }

    private static void asksAndTraces() {
        // DOUBT 4, 3, 2, 7, 9; DISLIKES 1, 5, 2 (itself), 4, 3
        RumourBrew x = in("o0,1,0;d4,1;g3,5;w2,2;b7,4;r9,3;");
        asked(x, 0, 0, 5, 11, 10, 21, 20);
        asked(x, 0, 1, 1, 21, 20);
        asked(x, 1, 0, -15, 12, 11, 10, 24, 21, 20);
        asked(x, 1, 1, 12, 24, 21, 20);
        asked(x, 2, 0, -994, 11, 10, 22, 21, 20);
        asked(x, 2, 1, -996, 22, 21, 20);
        asked(x, 3, 0, -93, 13, 10);
        asked(x, 3, 1, 96, 23, 20, 13, 10);
        asked(x, 4, 0, -182, 14, 13, 10);
        asked(x, 4, 1, 186, 23, 20, 14, 13, 10);
        promise = 32;
        due("what", x.ask(0, 2), BAD);
        due("what", x.ask(0, -1), BAD);
        due("no drinker", x.ask(5, 0), BAD);
        due("no drinker", x.ask(-1, 0), BAD);
        promise = 33;
        due("what is refused leaves the trace", x.trace(4), 10);
        due("far behind", x.trace(Integer.MAX_VALUE), NONE);
        due("far ahead", x.trace(Integer.MIN_VALUE), NONE);
    }

    private static void countsAreTold() {
        promise = 34;
        RumourBrew x = in(CHAIN);
        x.row(1, 0, 3);
        x.row(4, 1, 0);
        x.row(6, 2, 1);
        x.brew(0, 9);
        x.brew(4, 20);
        x.tap(0, 1);
        x.tap(1, 0);
        x.days(3);
        feed(x, "oooooooo");
        // about 0: 1 and 2; about 4, 14 STRONG: 0, 1, 2
        int[] counts = {3, 5, 4, 2, 3, 5, 7, 8};
        for (int what = 0; what < counts.length; what++) {
            due("count(" + what + ")", x.count(what), counts[what]);
        }
        due("BAD", x.count(8), BAD);
        due("BAD", x.count(-1), BAD);
        x.blend(0, 1);
        due("a cask less", x.count(3), 1);
        due("notes stay", x.count(5), 5);
    }

    private static void statusIsTold() {
        promise = 35;
        RumourBrew x = pair();
        due("none yet", x.status(), 0);
        x.row(0, 0, -1);
        due("SIZE", x.status(), 4);
        x.count(0);
        x.tap(0, 0);
        x.ask(0, 0);
        due("calls without a row leave it", x.status(), 4);
        x.row(0, 3, 1);
        x.set(8, 0, 0);
        x.copy(0, 0, 9, 0, 0);
        x.drop(-1);
        x.as(0, 9);
        due("BAD leaves it", x.status(), 4);
        x.row(0, 0, 2);
        due("fine", x.status(), 0);
        x.set(0, 2, 0);
        due("PLACE", x.status(), 2);
        x.set(0, 1, 0);
        due("fine", x.status(), 0);
        x.set(1, 2, 0);
        due("NULL", x.status(), 1);
        x.row(1, 1, 1);
        x.copy(0, 0, 1, 0, 1);
        due("STORE", x.status(), 5);
        x.malts(3, 0, 0, 1);
        x.who(0, 3, 0, 0, 1);
        due("STATE leaves it", x.status(), 5);
        x.malts(0, 2, 0, 1);
        due("malts: NULL", x.status(), 1);
        x.malts(0, 0, 1, 1);
        due("malts: PLACE", x.status(), 2);
        x.set(0, 0, 9);
        x.as(0, 5);
        x.malts(0, 0, 0, 1);
        x.who(0, 0, 0, 0, 1);
        due("BAD items leave it", x.status(), 3);
        x.set(0, 0, 0);
        x.as(0, 5);
        x.malts(0, 0, 0, 1);
        due("malts: fine", x.status(), 0);
        x.who(0, 0, 2, 0, 1);
        due("who: NULL", x.status(), 1);
        x.who(0, 0, 0, 0, 1);
        due("who: fine", x.status(), 0);
        x.who(0, 0, 0, 1, 1);
        due("who: PLACE", x.status(), 2);
        x.as(0, 1);
        due("as: fine", x.status(), 0);
        x.drop(5);
        due("drop: NULL", x.status(), 1);
        x.copy(0, 0, 0, 1, 1);
        due("copy: fine", x.status(), 0);
    }

    private static void constantsStand() {
        promise = 1;
        due("NONE", RumourBrew.NONE, NONE);
        due("BAD", RumourBrew.BAD, BAD);
        due("STATE", RumourBrew.STATE, STATE);
        due("FULL", RumourBrew.FULL, FULL);
    }
}
