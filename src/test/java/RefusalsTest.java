import java.util.ArrayList;
import java.util.List;
import java.util.function.Supplier;
import java.util.function.ToLongFunction;

/**
 * "What is refused, or found, changes nothing but status()", and what is foretold or shown changes nothing: of two
 * objects with the same calls behind them one gets such a call more; then all that can be seen of both is alike.
 */
public final class RefusalsTest extends Cases {
    private static final Supplier<RumourBrew> FRESH = RumourBrew::new;
    private static final Supplier<RumourBrew> BUSY = RefusalsTest::busy;
    private static final Supplier<RumourBrew> CRAMMED = RefusalsTest::crammed;
    private static final int STAYS = -1;

    public static void main(String[] args) throws Exception {
        run(RefusalsTest.class, 2, 35);
    }

    /** Cask 2 is missing; eight acts, a finding (3), a fault (1), a trace, an image, and a text on the tape. */
    private static RumourBrew busy() {
        RumourBrew x = in("o2,3,4;b1,1;d0,1;");
        x.brew(1, 13);
        x.image(1);
        x.town();
        fed(x, "o1,4,3;d4,1;g3,0;w2,0;b0,0;r0,0;d5,3;t0,1;t1,2;t2,3;t3,4;t5,0;").town();
        x.brew(5, 14);
        x.brew(1, 9);
        x.brew(2, 3);
        x.brew(3, 20);
        x.days(2);
        x.tap(3, 1);
        x.blend(2, 1);
        fill(x, 0, 0, 1, 2, 9, 3);
        fill(x, 1, 1, 4, 5);
        x.row(2, 2, 0);
        x.ask(1, 0);
        x.as(0, 5);
        return fed(x, "o5,6,7;g8,4;b9,3;t1,0;");
    }

    /** Four casks on the last DAY, and a tape without room; row 0 is missing. */
    private static RumourBrew crammed() {
        RumourBrew x = in("o0,40,1;d0,0;g0,1;t1,0;");
        for (int day = 0; day < 984; day += 24) {
            x.days(24);
        }
        for (int cask = 0; cask < 4; cask++) {
            x.brew(1, 5 * cask);
        }
        x.tap(3, 1);
        x.days(15);
        x.row(1, 0, 40);
        for (int n = 0; n < 120; n++) {
            x.feed('o');
        }
        return x;
    }

    private static void leavesAll(Supplier<RumourBrew> state, String call, long answer, int status,
            ToLongFunction<RumourBrew> made) {
        for (int look = 0; look < 4; look++) {
            RumourBrew twin = state.get();
            RumourBrew x = state.get();
            due(call, made.applyAsLong(x), answer);
            due(call + ": status", x.status(), status == STAYS ? twin.status() : status);
            due(call + ": look " + look, seen(x, look).equals(seen(twin, look)) ? 1 : 0, 1);
        }
    }

    private static void refused(Supplier<RumourBrew> state, String call, long answer,
            ToLongFunction<RumourBrew> made) {
        leavesAll(state, call, answer, STAYS, made);
    }

    private static void found(Supplier<RumourBrew> state, String call, int answer, ToLongFunction<RumourBrew> made) {
        leavesAll(state, call, answer, -1000010 - answer, made);
    }

    private static List<Long> seen(RumourBrew x, int look) {
        List<Long> seen = new ArrayList<>();
        switch (look) {
            case 0:
                seeAll(x, seen);
                break;
            case 1:
                seeRows(x, seen);
                break;
            case 2:
                seeUndone(x, seen);
                break;
            default:
                seeTape(x, seen);
                break;
        }
        return seen;
    }

    private static void seeTown(RumourBrew x, List<Long> seen) {
        for (int what = 0; what < 8; what++) {
            seen.add((long) x.count(what));
        }
        for (int cask = 0; cask < 4; cask++) {
            for (int what = 0; what < 5; what++) {
                seen.add((long) x.cask(cask, what));
            }
        }
        for (int d = 0; d < 6; d++) {
            seen.add((long) x.rumour(d));
        }
    }

    private static void seeAll(RumourBrew x, List<Long> seen) {
        seeTown(x, seen);
        seen.add((long) x.fault());
        for (int i = 0; i < 17; i++) {
            seen.add((long) x.trace(i));
        }
        for (int d = 0; d < 6; d++) {
            seen.add((long) x.kind(d));
            for (int what = 0; what < 3; what++) {
                seen.add((long) x.drinker(d, what));
            }
        }
        for (int cask = 0; cask < 4; cask++) {
            seen.add((long) x.telling(cask, 3, 0));
            seen.add((long) x.telling(cask, 3, 1));
            seen.add((long) x.telling(cask, 3, 3));
            seen.add((long) x.goesOff(cask, 0));
            seen.add((long) x.goesOff(cask, 1));
            seen.add(x.silent(cask, 0, 1, 3, 0));
        }
        seen.add((long) x.drawn(20, 7, 0));
        seen.add((long) x.drawn(20, 7, 1));
    }

    /** ITEMS can be read in a town APART; the tape is emptied for its text. */
    private static void seeRows(RumourBrew x, List<Long> seen) {
        x.town();
        fed(x, APART).town();
        x.brew(0, 20);
        for (int row = 0; row < 3; row++) {
            for (int i = 0; i < 4; i++) {
                seen.add((long) item(x, row, row, i));
            }
        }
        for (int row = 0; row < 7; row++) {
            seen.add((long) laneOf(x, row, 0));
            seen.add((long) x.drop(row));
        }
    }

    private static void seeUndone(RumourBrew x, List<Long> seen) {
        for (int k = 0; k < 25; k++) {
            seen.add((long) x.undo());
            seen.add((long) x.count(4));
            seen.add((long) x.count(5));
            for (int cask = 0; cask < 4; cask++) {
                seen.add((long) x.cask(cask, 1));
            }
        }
        seeTown(x, seen);
    }

    private static void seeTape(RumourBrew x, List<Long> seen) {
        seen.add((long) x.town());
        seen.add((long) x.fault());
        seeTown(x, seen);
        for (int k = 0; k < 2; k++) {
            seen.add((long) x.restore(k));
            seeTown(x, seen);
        }
    }

    // ---- rows

    static void promise02_row() {
        refused(BUSY, "row(8, 0, 1)", BAD, x -> x.row(8, 0, 1));
        refused(BUSY, "row(-1, 0, 1)", BAD, x -> x.row(-1, 0, 1));
        refused(BUSY, "row(0, 3, 1)", BAD, x -> x.row(0, 3, 1));
        refused(BUSY, "row(0, -1, 1)", BAD, x -> x.row(0, -1, 1));
        refused(BUSY, "row(0, 2, 41)", BAD, x -> x.row(0, 2, 41));
        found(BUSY, "row(0, 2, -1)", SIZE, x -> x.row(0, 2, -1));
        found(FRESH, "row(0, 2, -1)", SIZE, x -> x.row(0, 2, -1));
    }

    static void promise03_set() {
        refused(BUSY, "set(8, 0, 1)", BAD, x -> x.set(8, 0, 1));
        found(BUSY, "set(3, 0, 1)", NULL, x -> x.set(3, 0, 1));
        found(BUSY, "set(0, 4, 5)", PLACE, x -> x.set(0, 4, 5));
        found(BUSY, "set(0, -1, 5)", PLACE, x -> x.set(0, -1, 5));
        found(BUSY, "set(2, 0, 5)", PLACE, x -> x.set(2, 0, 5));
        found(FRESH, "set(0, 0, 1)", NULL, x -> x.set(0, 0, 1));
    }

    static void promise04_copy() {
        refused(BUSY, "copy(0, 0, 8, 0, 1)", BAD, x -> x.copy(0, 0, 8, 0, 1));
        refused(BUSY, "copy(-1, 0, 0, 0, 1)", BAD, x -> x.copy(-1, 0, 0, 0, 1));
        found(BUSY, "copy(0, 0, 3, 0, 1)", NULL, x -> x.copy(0, 0, 3, 0, 1));
        found(BUSY, "copy(3, 0, 0, 0, 1)", NULL, x -> x.copy(3, 0, 0, 0, 1));
        found(BUSY, "copy(0, 0, 1, 0, 1)", STORE, x -> x.copy(0, 0, 1, 0, 1));
        found(BUSY, "copy(0, 0, 0, 1, 4)", PLACE, x -> x.copy(0, 0, 0, 1, 4));
        found(BUSY, "copy(0, 1, 0, 0, 4)", PLACE, x -> x.copy(0, 1, 0, 0, 4));
        found(BUSY, "copy(0, 2, 0, 0, -1)", PLACE, x -> x.copy(0, 2, 0, 0, -1));
    }

    static void promise05_drop() {
        refused(BUSY, "drop(8)", BAD, x -> x.drop(8));
        refused(BUSY, "drop(-1)", BAD, x -> x.drop(-1));
        found(BUSY, "drop(3)", NULL, x -> x.drop(3));
        found(FRESH, "drop(0)", NULL, x -> x.drop(0));
    }

    // ---- what is told

    static void promise06_feed() {
        refused(BUSY, "feed(-1)", BAD, x -> x.feed(-1));
        refused(BUSY, "feed(256)", BAD, x -> x.feed(256));
        refused(CRAMMED, "feed(111)", FULL, x -> x.feed('o'));
        refused(CRAMMED, "feed(256)", BAD, x -> x.feed(256));
        refused(FRESH, "feed(256)", BAD, x -> x.feed(256));
    }

    /** The tape of both is empty ahead of it, and the latest FAULT is 1, so that all has to stay. */
    private static RumourBrew busyWithoutText() {
        RumourBrew x = busy();
        x.town();
        x.town();
        x.brew(0, 3);
        x.tap(0, 1);
        return x;
    }

    static void promise07_town() {
        refused(RefusalsTest::busyWithoutText, "town()", -1000100, RumourBrew::town);
        refused(RefusalsTest::busyWithoutText, "a text with a fault", -1000115,
                x -> fed(x, "o0,1,0;d0,0;d0,z").town());
    }

    static void promise08_fault() {
        refused(BUSY, "fault()", 1, RumourBrew::fault);
        refused(FRESH, "fault()", 0, RumourBrew::fault);
    }

    static void promise09_undo() {
        refused(FRESH, "undo()", STATE, RumourBrew::undo);
        refused(RefusalsTest::restored, "undo()", STATE, RumourBrew::undo);
    }

    private static RumourBrew restored() {
        RumourBrew x = busy();
        x.restore(1);
        return x;
    }

    // ---- what is done

    static void promise10_brew() {
        refused(BUSY, "brew(6, 1)", BAD, x -> x.brew(6, 1));
        refused(BUSY, "brew(-1, 1)", BAD, x -> x.brew(-1, 1));
        refused(BUSY, "brew(0, 21)", BAD, x -> x.brew(0, 21));
        refused(BUSY, "brew(0, -1)", BAD, x -> x.brew(0, -1));
        refused(CRAMMED, "brew(0, 1)", FULL, x -> x.brew(0, 1));
        refused(FRESH, "brew(0, 1)", BAD, x -> x.brew(0, 1));
    }

    static void promise11_days() {
        refused(BUSY, "days(0)", BAD, x -> x.days(0));
        refused(BUSY, "days(25)", BAD, x -> x.days(25));
        refused(CRAMMED, "days(1)", FULL, x -> x.days(1));
        refused(FRESH, "days(1)", STATE, x -> x.days(1));
        refused(RefusalsTest::dayBeforeTheLast, "days(2)", FULL, x -> x.days(2));
    }

    private static RumourBrew dayBeforeTheLast() {
        RumourBrew x = crammed();
        x.undo();
        return x;
    }

    static void promise12_tap() {
        refused(BUSY, "tap(4, 0)", BAD, x -> x.tap(4, 0));
        refused(BUSY, "tap(0, 6)", BAD, x -> x.tap(0, 6));
        refused(BUSY, "tap(2, 0)", STATE, x -> x.tap(2, 0));
        refused(FRESH, "tap(0, 0)", BAD, x -> x.tap(0, 0));
    }

    static void promise13_water() {
        refused(BUSY, "water(4)", BAD, x -> x.water(4));
        refused(BUSY, "water(2)", STATE, x -> x.water(2));
        refused(FRESH, "water(0)", STATE, x -> x.water(0));
    }

    static void promise14_blend() {
        refused(BUSY, "blend(0, 0)", BAD, x -> x.blend(0, 0));
        refused(BUSY, "blend(0, 4)", BAD, x -> x.blend(0, 4));
        refused(BUSY, "blend(-1, 0)", BAD, x -> x.blend(-1, 0));
        refused(BUSY, "blend(0, 2)", STATE, x -> x.blend(0, 2));
        refused(BUSY, "blend(2, 0)", STATE, x -> x.blend(2, 0));
        refused(FRESH, "blend(0, 1)", STATE, x -> x.blend(0, 1));
    }

    static void promise15_cask() {
        refused(BUSY, "cask(4, 0)", BAD, x -> x.cask(4, 0));
        refused(BUSY, "cask(2, 0)", NONE, x -> x.cask(2, 0));
        refused(BUSY, "cask(0, 1)", 14, x -> x.cask(0, 1));
    }

    static void promise16_drinker() {
        refused(BUSY, "drinker(6, 0)", BAD, x -> x.drinker(6, 0));
        refused(BUSY, "drinker(5, 0)", 5, x -> x.drinker(5, 0));
    }

    static void promise17_rumour() {
        refused(BUSY, "rumour(6)", BAD, x -> x.rumour(6));
        refused(BUSY, "rumour(0)", 0, x -> x.rumour(0));
    }

    // ---- foretold

    static void promise18_telling() {
        refused(BUSY, "telling(0, 0, 0)", BAD, x -> x.telling(0, 0, 0));
        refused(BUSY, "telling(2, 1, 0)", STATE, x -> x.telling(2, 1, 0));
        refused(BUSY, "telling(0, 63, 1)", 63, x -> x.telling(0, 63, 1));
    }

    static void promise19_fewest() {
        refused(BUSY, "fewest(0, 1, 1, 0)", BAD, x -> x.fewest(0, 1, 1, 0));
        refused(BUSY, "fewest(2, 1, 0, 0)", STATE, x -> x.fewest(2, 1, 0, 0));
        refused(BUSY, "fewest(0, 8, 0, 0)", NONE, x -> x.fewest(0, 8, 0, 0));
        refused(BUSY, "fewest(0, 2, 0, 1)", 1, x -> x.fewest(0, 2, 0, 1));
    }

    static void promise20_silence() {
        refused(BUSY, "silence(0, 1, 1, 0)", BAD, x -> x.silence(0, 1, 1, 0));
        refused(BUSY, "silence(2, 0, 1, 0)", STATE, x -> x.silence(2, 0, 1, 0));
        refused(BUSY, "silence(3, 4, 1, 0)", NONE, x -> x.silence(3, 4, 1, 0));
        refused(BUSY, "silence(3, 1, 2, 1)", 2, x -> x.silence(3, 1, 2, 1));
    }

    static void promise21_malts() {
        refused(BUSY, "malts(4, 0, 0, 1)", BAD, x -> x.malts(4, 0, 0, 1));
        refused(BUSY, "malts(0, 8, 0, 1)", BAD, x -> x.malts(0, 8, 0, 1));
        refused(BUSY, "malts(0, 0, 0, 0)", BAD, x -> x.malts(0, 0, 0, 0));
        refused(BUSY, "malts(2, 0, 0, 1)", STATE, x -> x.malts(2, 0, 0, 1));
        refused(BUSY, "malts(0, 0, 2, 1)", BAD, x -> x.malts(0, 0, 2, 1));
        found(BUSY, "malts(0, 3, 0, 1)", NULL, x -> x.malts(0, 3, 0, 1));
        found(BUSY, "malts(0, 0, 3, 1)", PLACE, x -> x.malts(0, 0, 3, 1));
        leavesAll(BUSY, "malts(0, 0, 0, 1)", 0, 0, x -> x.malts(0, 0, 0, 1));
    }

    static void promise22_who() {
        refused(BUSY, "who(6, 0, 0, 0, 1)", BAD, x -> x.who(6, 0, 0, 0, 1));
        refused(BUSY, "who(0, 0, 0, 0, 7)", BAD, x -> x.who(0, 0, 0, 0, 7));
        refused(BUSY, "who(0, 2, 0, 0, 1)", STATE, x -> x.who(0, 2, 0, 0, 1));
        refused(BUSY, "who(0, 0, 0, 0, 2)", BAD, x -> x.who(0, 0, 0, 0, 2));
        found(BUSY, "who(0, 0, 3, 0, 1)", NULL, x -> x.who(0, 0, 3, 0, 1));
        found(BUSY, "who(0, 0, 0, -1, 1)", PLACE, x -> x.who(0, 0, 0, -1, 1));
        leavesAll(BUSY, "who(2, 0, 0, 0, 1)", 0, 0, x -> x.who(2, 0, 0, 0, 1));
    }

    static void promise23_goesOff() {
        refused(BUSY, "goesOff(0, 2)", BAD, x -> x.goesOff(0, 2));
        refused(BUSY, "goesOff(2, 0)", STATE, x -> x.goesOff(2, 0));
        refused(BUSY, "goesOff(0, 0)", 3, x -> x.goesOff(0, 0));
    }

    static void promise24_best() {
        refused(BUSY, "best(0, 2)", BAD, x -> x.best(0, 2));
        refused(BUSY, "best(2, 0)", STATE, x -> x.best(2, 0));
        // at 0: 0, 1 and 2; at 5: these and 5 itself
        refused(BUSY, "best(0, 0)", 5, x -> x.best(0, 0));
        refused(BUSY, "best(0, 1)", 4, x -> x.best(0, 1));
    }

    static void promise25_blended() {
        refused(BUSY, "blended(0, 0, 1)", BAD, x -> x.blended(0, 0, 1));
        refused(BUSY, "blended(0, 2, 1)", STATE, x -> x.blended(0, 2, 1));
        refused(BUSY, "blended(2, 0, 1)", STATE, x -> x.blended(2, 0, 1));
        // 20, of 3: 1, and 2 by 21; the boy has 20, the rat 18, all others 9: 0, and 5 who dislikes 3
        refused(BUSY, "blended(0, 3, 1)", 4, x -> x.blended(0, 3, 1));
    }

    static void promise26_silent() {
        refused(BUSY, "silent(0, 0, 1, 11, 0)", BAD, x -> x.silent(0, 0, 1, 11, 0));
        refused(BUSY, "silent(2, 0, 1, 5, 0)", STATE, x -> x.silent(2, 0, 1, 5, 0));
        refused(BUSY, "silent(0, 0, 1, 5, 1)", 2, x -> x.silent(0, 0, 1, 5, 1));
    }

    static void promise27_drawn() {
        refused(BUSY, "drawn(61, 1, 0)", BAD, x -> x.drawn(61, 1, 0));
        refused(FRESH, "drawn(1, 1, 0)", STATE, x -> x.drawn(1, 1, 0));
        refused(BUSY, "drawn(0, 1, 1)", 45, x -> x.drawn(0, 1, 1));
        refused(BUSY, "drawn(60, 1, 0)", busy().drawn(60, 1, 0), x -> x.drawn(60, 1, 0));
    }

    static void promise28_image() {
        refused(BUSY, "image(2)", BAD, x -> x.image(2));
        refused(BUSY, "image(-1)", BAD, x -> x.image(-1));
        refused(FRESH, "image(0)", STATE, x -> x.image(0));
    }

    static void promise29_restore() {
        refused(BUSY, "restore(2)", BAD, x -> x.restore(2));
        refused(BUSY, "restore(-1)", BAD, x -> x.restore(-1));
        refused(BUSY, "restore(0)", STATE, x -> x.restore(0));
        refused(FRESH, "restore(0)", STATE, x -> x.restore(0));
    }

    // ---- asked

    static void promise30_kind() {
        refused(BUSY, "kind(6)", BAD, x -> x.kind(6));
        refused(BUSY, "kind(4)", 5, x -> x.kind(4));
    }

    static void promise31_as() {
        refused(BUSY, "as(6, 0)", BAD, x -> x.as(6, 0));
        refused(BUSY, "as(0, 6)", BAD, x -> x.as(0, 6));
        found(BUSY, "as(3, 5)", KIND, x -> x.as(3, 5));
        leavesAll(BUSY, "as(4, 4)", 4, 0, x -> x.as(4, 4));
    }

    static void promise32_ask() {
        refused(BUSY, "ask(6, 0)", BAD, x -> x.ask(6, 0));
        refused(BUSY, "ask(0, 2)", BAD, x -> x.ask(0, 2));
        refused(FRESH, "ask(0, 0)", BAD, x -> x.ask(0, 0));
    }

    static void promise33_trace() {
        refused(BUSY, "trace(0)", 12, x -> x.trace(0));
        refused(BUSY, "trace(16)", NONE, x -> x.trace(16));
    }

    static void promise34_count() {
        refused(BUSY, "count(8)", BAD, x -> x.count(8));
        refused(BUSY, "count(1)", 6, x -> x.count(1));
    }

    static void promise35_status() {
        refused(BUSY, "status()", 3, RumourBrew::status);
        refused(FRESH, "status()", 0, RumourBrew::status);
    }
}
