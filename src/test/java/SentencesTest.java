import java.util.ArrayList;
import java.util.LinkedHashMap;
import java.util.List;
import java.util.Map;
import java.util.Set;
import java.util.function.BiConsumer;
import java.util.function.ToLongFunction;

/**
 * Sentences that no other test by hand spoke of: what two of them say together, and that a call that is answered
 * changes what the document says of it and nothing else.
 */
public final class SentencesTest extends Cases {
    private static final int LOOKED_FOR = 17;

    public static void main(String[] args) throws Exception {
        run(SentencesTest.class, 1, 0);
    }

    // ---- two sentences together

    /** "come to b": the ROWS stay two, also if all ITEMS came. */
    static void promise04_wholeRowsStayApart() {
        RumourBrew x = withReadableRows();
        x.row(0, 0, 40);
        x.set(0, 39, 4);
        x.row(1, 0, 40);
        due("copy", x.copy(0, 0, 1, 0, 40), 40);
        x.set(0, 39, 5);
        x.set(1, 38, 3);
        due("item 39 of b", item(x, 1, 0, 39), 4);
        due("item 38 of a", item(x, 0, 0, 38), 0);
    }

    /** "who BELIEVES then is noted", by an OFF cask, too. */
    static void promise12_anOffTapIsNoted() {
        RumourBrew x = in("o0,1,0;d0,0;d1,1;");
        x.brew(1, 9);
        x.days(2);
        due("off", x.cask(0, 4), 1);
        due("tap", x.tap(0, 0), 1);
        due("noted", x.rumour(1), 1);
        due("not of the other", x.rumour(0), 0);
        due("one note", x.count(5), 1);
        x.undo();
        due("undone", x.rumour(1), 0);
    }

    /** MALT has a bound of 20, what a gossip passes on has none: 21, then 19, then 17, less 5. */
    static void promise18_aGossipMakes21Of20() {
        String text = "o0,40,1;g0,0;b0,1;b0,2;d12,3;t0,1;t1,2;t2,3;";
        RumourBrew x = in(text);
        x.brew(3, 20);
        due("20", x.telling(0, 1, 0), 9);
        RumourBrew y = in(text);
        y.brew(3, 19);
        due("19", y.telling(0, 1, 0), 1);
    }

    /** "the fewest to be told": also one who is not to BELIEVE, if others BELIEVE by it. */
    static void promise19_whoIsNotToBelieveMayBeTold() {
        RumourBrew x = in("o0,40,1;d1,0;d1,1;d1,2;r0,3;");
        x.brew(3, 4);
        due("how many", x.fewest(0, 7, 8, 0), 1);
        due("the rat", x.fewest(0, 7, 8, 1), 8);
    }

    /** X is 16807, 282475249, 1622650073, 984943658, 1144108930, 470211272: cask 0, DRINKER 0, on the sixth DAY. */
    static void promise27_casksAgeBeyondTheLastDay() {
        for (int keeps = 4; keeps <= 5; keeps++) {
            RumourBrew x = in("o0," + keeps + ",1;d1,0;d1,1;");
            for (int day = 0; day < 984; day += 24) {
                x.days(24);
            }
            x.days(15);
            x.brew(1, 20);
            due("the day", x.count(4), 999);
            due("five days", x.drawn(5, 1, 0), 0);
            due("six days, keeps " + keeps, x.drawn(6, 1, 0), keeps == 5 ? 1 : 0);
            due("malt", x.drawn(6, 1, 1), 19);
        }
    }

    /** "The TOWN is as an IMAGE kept it", though as many DRINKERS stand there now. */
    static void promise29_asManyDrinkersAsThen() {
        RumourBrew x = in("o3,4,2;d3,1;g5,2;b0,4;t0,1;t1,2;");
        x.brew(2, 9);
        x.days(2);
        x.tap(0, 0);
        x.image(0);
        fed(x, "o9,9,9;w1,5;r2,3;d7,0;t2,0;").town();
        x.brew(0, 20);
        x.days(7);
        x.tap(0, 2);
        due("restore", x.restore(0), 1);
        int[][] drinkers = {{1, 3, 1, 2}, {2, 5, 2, 4}, {4, 0, 4, 0}};
        for (int d = 0; d < 3; d++) {
            due("kind of " + d, x.kind(d), drinkers[d][0]);
            for (int what = 0; what < 3; what++) {
                due("drinker(" + d + ", " + what + ")", x.drinker(d, what), drinkers[d][what + 1]);
            }
        }
        int[] counts = {0, 3, 2, 1, 2, 2, 0, 0};
        for (int what = 0; what < 8; what++) {
            due("count(" + what + ")", x.count(what), counts[what]);
        }
        int[] cask = {2, 8, 2, 6, 0};
        for (int what = 0; what < 5; what++) {
            due("cask(0, " + what + ")", x.cask(0, what), cask[what]);
        }
        int[] rumours = {0, 0, 3};
        for (int whom = 0; whom < 3; whom++) {
            due("rumour(" + whom + ")", x.rumour(whom), rumours[whom]);
        }
        due("keeps", x.goesOff(0, 0), 3);
        due("oak", x.goesOff(0, 1), 1);
        due("excise", x.telling(0, 1, 3), 6);
    }

    /** "Of the latest call with a ROW": the largest ROW, the last ITEM are no findings either. */
    static void promise35_theLargestHasNone() {
        RumourBrew x = new RumourBrew();
        due("a finding", x.row(0, 0, -1), SIZE);
        x.row(7, 2, 40);
        due("row", x.status(), 0);
        x.set(7, 40, 1);
        due("a finding", x.status(), 2);
        x.set(7, 39, MOST);
        due("set", x.status(), 0);
        x.drop(6);
        due("a finding", x.status(), 1);
        x.copy(7, 0, 7, 0, 40);
        due("copy", x.status(), 0);
    }

    // ---- what is answered changes what is told of it, and nothing else

    /** An image of a town APART (0), one of another (1), rows, a trace, a finding, a fault, a text on the tape. */
    private static RumourBrew busy() {
        RumourBrew x = withReadableRows();
        x.image(0);
        fed(x, "o2,3,4;b1,1;d0,1;t0,1;").town();
        x.brew(1, 13);
        x.days(1);
        x.image(1);
        x.town();
        fed(x, "o1,4,3;d4,1;g3,0;w2,0;t0,1;t1,2;").town();
        x.brew(2, 14);
        x.brew(1, 9);
        x.days(1);
        x.tap(1, 0);
        fill(x, 0, 0, 1, 2, 3);
        fill(x, 1, 1, 4, 5);
        fill(x, 2, 0, 5, 4, 3);
        x.ask(1, 0);
        x.as(0, 5);
        return fed(x, "o5,6,7;g8,4;b9,3;t1,0;");
    }

    private static Map<String, BiConsumer<RumourBrew, List<Long>>> looks() {
        Map<String, BiConsumer<RumourBrew, List<Long>>> looks = new LinkedHashMap<>();
        looks.put("status", (x, seen) -> seen.add((long) x.status()));
        looks.put("fault", (x, seen) -> seen.add((long) x.fault()));
        looks.put("trace", SentencesTest::seeTrace);
        looks.put("town", SentencesTest::seeTown);
        looks.put("acts", SentencesTest::seeActs);
        looks.put("rows", SentencesTest::seeRows);
        looks.put("tape", SentencesTest::seeTape);
        looks.put("image 0", (x, seen) -> seeImage(x, 0, seen));
        looks.put("image 1", (x, seen) -> seeImage(x, 1, seen));
        return looks;
    }

    private static void seeTrace(RumourBrew x, List<Long> seen) {
        for (int i = 0; i < LOOKED_FOR; i++) {
            seen.add((long) x.trace(i));
        }
    }

    private static void seeTown(RumourBrew x, List<Long> seen) {
        for (int what = 1; what <= 5; what++) {
            seen.add((long) x.count(what));
        }
        for (int d = 0; d < 6; d++) {
            seen.add((long) x.kind(d));
            seen.add((long) x.rumour(d));
            for (int what = 0; what < 3; what++) {
                seen.add((long) x.drinker(d, what));
            }
        }
        for (int cask = 0; cask < 4; cask++) {
            for (int what = 0; what < 5; what++) {
                seen.add((long) x.cask(cask, what));
            }
            seen.add((long) x.telling(cask, 1, 0));
            seen.add((long) x.telling(cask, 1, 3));
            seen.add((long) x.goesOff(cask, 0));
            seen.add((long) x.goesOff(cask, 1));
        }
    }

    private static void seeActs(RumourBrew x, List<Long> seen) {
        seen.add((long) x.count(6));
        for (int k = 0; k < 9; k++) {
            seen.add((long) x.undo());
            seen.add((long) x.count(4));
            seen.add((long) x.count(5));
            seen.add((long) x.cask(0, 1));
            seen.add((long) x.cask(1, 1));
        }
    }

    /** ITEMS can be read in a town APART. */
    private static void seeRows(RumourBrew x, List<Long> seen) {
        seen.add((long) x.count(0));
        x.town();
        fed(x, APART).town();
        x.brew(0, 20);
        int[] lanes = {0, 1, 0};
        for (int row = 0; row < 3; row++) {
            for (int i = 0; i < 4; i++) {
                seen.add((long) item(x, row, lanes[row], i));
            }
        }
        for (int row = 0; row < 7; row++) {
            seen.add((long) laneOf(x, row, 0));
            seen.add((long) x.drop(row));
        }
    }

    private static void seeTape(RumourBrew x, List<Long> seen) {
        seen.add((long) x.count(7));
        seen.add((long) x.town());
        for (int d = 0; d < 2; d++) {
            seen.add((long) x.kind(d));
            seen.add((long) x.drinker(d, 0));
        }
    }

    private static void seeImage(RumourBrew x, int k, List<Long> seen) {
        seen.add((long) x.restore(k));
        seeTown(x, seen);
    }

    private static void changes(Set<String> these, String call, long answer, ToLongFunction<RumourBrew> made) {
        Map<String, BiConsumer<RumourBrew, List<Long>>> looks = looks();
        for (Map.Entry<String, BiConsumer<RumourBrew, List<Long>>> look : looks.entrySet()) {
            RumourBrew x = busy();
            due(call, made.applyAsLong(x), answer);
            List<Long> before = new ArrayList<>();
            List<Long> behind = new ArrayList<>();
            look.getValue().accept(busy(), before);
            look.getValue().accept(x, behind);
            boolean isOther = !behind.equals(before);
            due(call + " changes: " + look.getKey(), isOther ? 1 : 0, these.contains(look.getKey()) ? 1 : 0);
        }
    }

    static void promise02_rowChangesRowsAndStatus() {
        changes(Set.of("rows", "status"), "row(1, 2, 3)", 3, x -> x.row(1, 2, 3));
        changes(Set.of("status"), "row(5, 0, -1)", SIZE, x -> x.row(5, 0, -1));
    }

    static void promise03_setChangesRowsAndStatus() {
        changes(Set.of("rows", "status"), "set(0, 2, 0)", 0, x -> x.set(0, 2, 0));
    }

    static void promise04_copyChangesRowsAndStatus() {
        changes(Set.of("rows", "status"), "copy(0, 0, 2, 1, 2)", 2, x -> x.copy(0, 0, 2, 1, 2));
        changes(Set.of("status"), "copy(0, 1, 0, 1, 2)", 2, x -> x.copy(0, 1, 0, 1, 2));
    }

    static void promise05_dropChangesRowsAndStatus() {
        changes(Set.of("rows", "status"), "drop(1)", 2, x -> x.drop(1));
    }

    static void promise06_feedChangesTheTape() {
        changes(Set.of("tape"), "feed(59)", 23, x -> x.feed(59));
    }

    static void promise07_townChangesTapeTownAndActs() {
        changes(Set.of("tape", "town", "acts"), "town()", 2, x -> x.town());
    }

    static void promise07_faultChangesTapeAndFault() {
        changes(Set.of("tape", "fault"), "a tie of one", -1000125, x -> fed(x, "t0,0;").town());
    }

    static void promise09_undoChangesTownAndActs() {
        changes(Set.of("town", "acts"), "undo()", 3, x -> x.undo());
    }

    static void promise10_brewChangesTownAndActs() {
        changes(Set.of("town", "acts"), "brew(0, 3)", 2, x -> x.brew(0, 3));
    }

    static void promise11_daysChangeTownAndActs() {
        changes(Set.of("town", "acts"), "days(4)", 3, x -> x.days(4));
    }

    static void promise12_tapChangesTownAndActs() {
        changes(Set.of("town", "acts"), "tap(0, 1)", 6, x -> x.tap(0, 1));
    }

    static void promise13_waterChangesTownAndActs() {
        changes(Set.of("town", "acts"), "water(0)", 7, x -> x.water(0));
    }

    static void promise14_blendChangesTownAndActs() {
        changes(Set.of("town", "acts"), "blend(1, 0)", 20, x -> x.blend(1, 0));
    }

    static void promise28_imageChangesItself() {
        changes(Set.of("image 0"), "image(0)", 1, x -> x.image(0));
        changes(Set.of("image 1"), "image(1)", 1, x -> x.image(1));
    }

    static void promise29_restoreChangesTownAndActs() {
        changes(Set.of("town", "acts"), "restore(0)", 1, x -> x.restore(0));
        changes(Set.of("town", "acts"), "restore(1)", 1, x -> x.restore(1));
    }

    static void promise31_asChangesStatus() {
        changes(Set.of("status"), "as(0, 1)", 0, x -> x.as(0, 1));
    }

    static void promise32_askChangesTheTrace() {
        changes(Set.of("trace"), "ask(0, 1)", 1, x -> x.ask(0, 1));
    }
}
