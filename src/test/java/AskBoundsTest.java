/** Promises 30 to 35: KINDS, asks and THE TRACE, counts, and what status() keeps. */
public final class AskBoundsTest extends Cases {
    /** One of each KIND; DOUBT 4, 3, 2, 7, 9, 12; DISLIKES 1, 5, 2 (itself), 4, 3, 0. */
    private static final String ALL_KINDS = "o0,1,0;d4,1;g3,5;w2,2;b7,4;r9,3;d12,0;";

    public static void main(String[] args) throws Exception {
        run(AskBoundsTest.class, 30, 35);
    }

    // ---- 30: kind

    static void promise30_drinkers() {
        RumourBrew x = in(ALL_KINDS);
        int[] kinds = {1, 2, 3, 4, 5, 1};
        for (int one = 0; one < 6; one++) {
            due("kind(" + one + ")", x.kind(one), kinds[one]);
        }
        for (int no : new int[] {-1, 6, LEAST, MOST}) {
            due("kind(" + no + ")", x.kind(no), BAD);
        }
        due("1 of 1", in("o0,1,0;r0,0;").kind(1), BAD);
        due("no town", new RumourBrew().kind(0), BAD);
    }

    static void promise30_asToldBehindWho() {
        RumourBrew x = in(TWO);
        x.brew(0, 9);
        x.row(0, 0, 2);
        x.who(1, 0, 0, 0, 1);
        due("kind", x.kind(1), 1);
        due("a telling", x.telling(0, 2, 0), 2);
    }

    // ---- 31: as

    static void promise31_drinkersAndKinds() {
        RumourBrew x = in(ALL_KINDS);
        for (int no : new int[] {-1, 6, LEAST, MOST}) {
            due("as(" + no + ", 0)", x.as(no, 0), BAD);
            due("as(0, " + no + ")", x.as(0, no), BAD);
        }
        due("the last drinker", x.as(5, 1), 5);
        due("the last kind", x.as(4, 5), 4);
        due("no town", new RumourBrew().as(0, 0), BAD);
    }

    static void promise31_eachKind() {
        RumourBrew x = in(ALL_KINDS);
        String[] is = {"110000", "111000", "110100", "100010", "100011", "110000"};
        for (int one = 0; one < 6; one++) {
            for (int kind = 0; kind < 6; kind++) {
                boolean fits = is[one].charAt(kind) == '1';
                due("as(" + one + ", " + kind + ")", x.as(one, kind), fits ? one : KIND);
                due("status", x.status(), fits ? 0 : 3);
            }
        }
    }

    static void promise31_badAheadOfKind() {
        RumourBrew x = in(ALL_KINDS);
        x.as(0, 5);
        due("kind 6", x.as(0, 6), BAD);
        due("no drinker", x.as(6, 5), BAD);
        due("status stays", x.status(), 3);
    }

    static void promise31_nothingChanges() {
        RumourBrew x = in(ALL_KINDS);
        x.as(1, 1);
        due("kind", x.kind(1), 2);
        due("its own body begins", x.ask(1, 0), -15);
    }

    // ---- 32: ask, 33: trace

    static void promise32_drinkersAndWhat() {
        RumourBrew x = in(ALL_KINDS);
        for (int no : new int[] {-1, 6, LEAST, MOST}) {
            due("one " + no, x.ask(no, 0), BAD);
        }
        for (int no : new int[] {-1, 2, LEAST, MOST}) {
            due("what " + no, x.ask(0, no), BAD);
        }
        due("the last", x.ask(5, 0), 17);
        due("the last", x.ask(5, 1), 5);
        due("no town", new RumourBrew().ask(0, 0), BAD);
    }

    static void promise32_sizeOfEachKind() {
        RumourBrew x = in(ALL_KINDS);
        // 4 and 0 and 1; less 3 and twice 1 and 5; 2 and 2 and 2 less 1000; 7 less 100; twice 9 less 100
        int[] sizes = {5, -15, -994, -93, -182, 17};
        for (int one = 0; one < 6; one++) {
            due("SIZE of " + one, x.ask(one, 0), sizes[one]);
        }
    }

    static void promise32_markOfEachKind() {
        RumourBrew x = in(ALL_KINDS);
        int[] marks = {1, 12, -996, 96, 186, 5};
        for (int one = 0; one < 6; one++) {
            due("MARK of " + one, x.ask(one, 1), marks[one]);
        }
    }

    static void promise32_leastAndMost() {
        RumourBrew x = in("o0,1,0;r0,0;g12,5;b12,0;d0,0;w0,0;g0,0;");
        due("SIZE of the least rat", x.ask(0, 0), -200);
        due("MARK of it", x.ask(0, 1), 200);
        due("SIZE of a gossip", x.ask(1, 0), -24);
        due("MARK of it", x.ask(1, 1), 12);
        due("SIZE of a boy", x.ask(2, 0), -88);
        due("MARK of it", x.ask(2, 1), 90);
        due("SIZE of a plain one", x.ask(3, 0), 3);
        due("SIZE of a wife", x.ask(4, 0), -996);
        due("SIZE of the last gossip", x.ask(5, 0), -10);
    }

    static void promise32_badLeavesTheTrace() {
        RumourBrew x = in(ALL_KINDS);
        x.ask(4, 1);
        x.ask(6, 0);
        x.ask(0, 2);
        traced(x, 23, 20, 14, 13, 10);
    }

    static void promise32_theTraceIsEmptyAheadOfIt() {
        RumourBrew x = in(ALL_KINDS);
        x.ask(1, 0);
        x.ask(0, 1);
        traced(x, 21, 20);
        x.ask(0, 1);
        traced(x, 21, 20);
    }

    private static void traced(RumourBrew x, int... bodies) {
        for (int i = 0; i < bodies.length; i++) {
            due("trace(" + i + ")", x.trace(i), bodies[i]);
        }
        for (int i = bodies.length; i < 20; i++) {
            due("trace(" + i + ")", x.trace(i), NONE);
        }
    }

    static void promise33_ofEachAsk() {
        int[][] bySize = {{11, 10, 21, 20}, {12, 11, 10, 24, 21, 20}, {11, 10, 22, 21, 20}, {13, 10}, {14, 13, 10}};
        int[][] byMark = {{21, 20}, {24, 21, 20}, {22, 21, 20}, {23, 20, 13, 10}, {23, 20, 14, 13, 10}};
        RumourBrew x = in(ALL_KINDS);
        for (int one = 0; one < 5; one++) {
            x.ask(one, 0);
            traced(x, bySize[one]);
            x.ask(one, 1);
            traced(x, byMark[one]);
        }
    }

    static void promise33_emptyAtFirst() {
        traced(new RumourBrew());
        traced(in(ALL_KINDS));
    }

    static void promise33_placesThatAreNone() {
        RumourBrew x = in(ALL_KINDS);
        x.ask(1, 0);
        due("the last", x.trace(5), 20);
        for (int no : new int[] {-1, 6, 15, 16, LEAST, MOST}) {
            due("trace(" + no + ")", x.trace(no), NONE);
        }
    }

    static void promise33_asksAloneLeaveIt() {
        RumourBrew x = in(ALL_KINDS);
        x.ask(3, 0);
        x.kind(0);
        x.as(0, 0);
        x.brew(0, 1);
        x.tap(0, 0);
        x.image(0);
        x.restore(0);
        fed(x, TWO).town();
        traced(x, 13, 10);
    }

    // ---- 34: count

    static void promise34_what0To7() {
        RumourBrew x = new RumourBrew();
        for (int no : new int[] {-1, 8, LEAST, MOST}) {
            due("count(" + no + ")", x.count(no), BAD);
        }
        for (int what = 0; what < 8; what++) {
            due("count(" + what + ")", x.count(what), 0);
        }
    }

    static void promise34_eachAtItsMost() {
        RumourBrew x = in("o0,1,0;d0,0;d0,1;d0,2;d0,3;d0,4;d0,5;"
                + "t0,1;t1,2;t2,3;t3,4;t4,5;t5,0;t0,2;t0,3;t0,4;t0,5;");
        for (int row = 0; row < 8; row++) {
            x.row(row, 0, row);
        }
        for (int day = 0; day < 984; day += 24) {
            x.days(24);
        }
        x.days(15);
        for (int cask = 0; cask < 4; cask++) {
            x.brew(cask, 20);
        }
        for (int n = 0; n < 120; n++) {
            x.feed('o');
        }
        int[] counts = {8, 6, 10, 4, 999, 0, 24, 120};
        for (int what = 0; what < 8; what++) {
            due("count(" + what + ")", x.count(what), counts[what]);
        }
    }

    static void promise34_casksAreCounted() {
        RumourBrew x = in(TWO);
        for (int n = 1; n <= 4; n++) {
            x.brew(0, 0);
            due("casks", x.count(3), n);
        }
        x.brew(0, 0);
        due("FULL", x.count(3), 4);
        x.blend(0, 3);
        due("one less", x.count(3), 3);
        x.undo();
        due("undone", x.count(3), 4);
    }

    static void promise34_notesAreCountedOnce() {
        RumourBrew x = in(TWO);
        for (int whom = 0; whom < 2; whom++) {
            x.brew(whom, 20);
            x.tap(whom, 0);
            x.tap(whom, 1);
            x.tap(whom, 1);
            due("notes", x.count(5), 2 * whom + 2);
        }
        x.undo();
        due("the last told nothing new", x.count(5), 4);
        x.undo();
        due("one less", x.count(5), 3);
    }

    static void promise34_allNotesOfSix() {
        RumourBrew x = in("o0,40,1;d0,0;d0,0;d0,0;d0,0;d0,0;d0,0;t0,1;t1,2;t2,3;t3,4;t4,5;t5,0;");
        x.brew(0, 0);
        for (int whom = 0; whom < 6; whom++) {
            int cask = x.brew(whom, 20);
            due("everybody", x.tap(cask, 0), 63);
            due("notes", x.count(5), 6 * whom + 6);
            x.blend(cask, 0);
        }
        due("notes", x.count(5), 36);
    }

    static void promise34_bytesAreCounted() {
        RumourBrew x = new RumourBrew();
        for (int n = 1; n <= 121; n++) {
            x.feed('o');
            due("bytes", x.count(7), Math.min(120, n));
        }
        x.town();
        due("bytes", x.count(7), 0);
    }

    static void promise34_actsAreCounted() {
        RumourBrew x = in(TWO);
        for (int n = 1; n <= 30; n++) {
            x.days(1);
            due("acts", x.count(6), Math.min(24, n));
        }
        x.undo();
        due("acts", x.count(6), 23);
    }

    // ---- 35: status

    static void promise35_0AtFirst() {
        due("new", new RumourBrew().status(), 0);
        RumourBrew x = in(TWO);
        x.row(8, 0, 0);
        x.set(-1, 0, 0);
        x.as(2, 0);
        due("BAD calls alone", x.status(), 0);
    }

    static void promise35_eachFinding() {
        RumourBrew x = in(TWO);
        due("row", x.row(0, 0, -1), SIZE);
        due("SIZE", x.status(), 4);
        due("set", x.set(0, 0, 0), NULL);
        due("NULL", x.status(), 1);
        due("as", x.as(0, 2), KIND);
        due("KIND", x.status(), 3);
        x.row(0, 0, 1);
        x.row(1, 1, 1);
        due("copy", x.copy(0, 0, 1, 0, 1), STORE);
        due("STORE", x.status(), 5);
        due("set", x.set(0, 1, 0), PLACE);
        due("PLACE", x.status(), 2);
    }

    /** A finding (KIND) ahead, that each call with a ROW or as() takes away, if it has none of its own. */
    private static RumourBrew withFinding() {
        RumourBrew x = in(TWO);
        x.brew(1, 20);
        fill(x, 0, 0, 0, 1, 9, 1);
        x.as(0, 5);
        due("KIND", x.status(), 3);
        return x;
    }

    static void promise35_noFindingIs0() {
        RumourBrew x = withFinding();
        x.row(1, 0, 1);
        due("row", x.status(), 0);
        x.as(0, 5);
        x.set(0, 0, 0);
        due("set", x.status(), 0);
        x.as(0, 5);
        x.copy(0, 0, 0, 0, 0);
        due("copy", x.status(), 0);
        x.as(0, 5);
        x.malts(0, 0, 0, 1);
        due("malts", x.status(), 0);
        x.as(0, 5);
        x.who(0, 0, 0, 0, 1);
        due("who", x.status(), 0);
        x.as(0, 5);
        x.drop(1);
        due("drop", x.status(), 0);
        x.as(0, 5);
        x.as(0, 1);
        due("as", x.status(), 0);
    }

    static void promise35_eachCallWithARowFinds() {
        RumourBrew x = in(TWO);
        x.brew(1, 20);
        x.row(0, 0, 1);
        due("copy", x.copy(0, 0, 0, 0, 2), PLACE);
        due("PLACE", x.status(), 2);
        due("drop", x.drop(1), NULL);
        due("NULL", x.status(), 1);
        due("malts", x.malts(0, 0, 0, 1), PLACE);
        due("PLACE", x.status(), 2);
        due("malts", x.malts(0, 1, 0, 1), NULL);
        due("NULL", x.status(), 1);
        due("who", x.who(0, 0, 0, 0, 1), PLACE);
        due("PLACE", x.status(), 2);
        due("who", x.who(0, 0, 1, 0, 1), NULL);
        due("NULL", x.status(), 1);
        due("copy", x.copy(0, 0, 0, 1, 1), PLACE);
        due("copy", x.copy(0, 0, 1, 1, 1), NULL);
        due("NULL", x.status(), 1);
    }

    static void promise35_badLeavesIt() {
        RumourBrew x = withFinding();
        due("row", x.row(8, 0, 1), BAD);
        due("row", x.row(0, 0, 41), BAD);
        due("set", x.set(8, 0, 0), BAD);
        due("copy", x.copy(0, 0, 8, 0, 1), BAD);
        due("drop", x.drop(8), BAD);
        due("as", x.as(2, 0), BAD);
        due("malts", x.malts(0, 0, 0, 7), BAD);
        due("malts, an item", x.malts(0, 0, 2, 1), BAD);
        due("who", x.who(2, 0, 0, 0, 1), BAD);
        due("who, an item", x.who(0, 0, 0, 2, 1), BAD);
        due("still", x.status(), 3);
    }

    static void promise35_stateLeavesIt() {
        RumourBrew x = withFinding();
        due("malts", x.malts(1, 0, 0, 1), STATE);
        due("who", x.who(0, 1, 0, 0, 1), STATE);
        due("still", x.status(), 3);
    }

    static void promise35_otherCallsLeaveIt() {
        RumourBrew x = withFinding();
        x.feed('o');
        x.town();
        x.fault();
        x.brew(0, 9);
        x.brew(0, 21);
        x.days(1);
        x.tap(0, 0);
        x.water(0);
        x.blend(1, 0);
        x.undo();
        x.cask(0, 0);
        x.drinker(0, 0);
        x.rumour(0);
        x.telling(0, 1, 0);
        x.fewest(0, 1, 0, 0);
        x.silence(0, 0, 1, 0);
        x.goesOff(0, 0);
        x.best(0, 0);
        x.blended(0, 1, 0);
        x.silent(0, 0, 1, 5, 0);
        x.drawn(1, 1, 0);
        x.image(0);
        x.restore(0);
        x.kind(0);
        x.ask(0, 0);
        x.trace(0);
        x.count(0);
        x.status();
        due("still", x.status(), 3);
        fed(x, TWO);
        due("a town", x.town(), 2);
        due("still", x.status(), 3);
    }
}
