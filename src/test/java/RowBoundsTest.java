/** Promises 1 to 5: a new object, and the bounds of ROWS, LANES, ITEMS and places. */
public final class RowBoundsTest extends Cases {
    public static void main(String[] args) throws Exception {
        run(RowBoundsTest.class, 1, 5);
    }

    // ---- 1: a new object

    static void promise01_countsAre0() {
        for (int what = 0; what < 8; what++) {
            due("count(" + what + ")", new RumourBrew().count(what), 0);
        }
    }

    static void promise01_noTown() {
        RumourBrew x = new RumourBrew();
        due("days", x.days(1), STATE);
        due("drawn", x.drawn(0, 1, 0), STATE);
        due("image", x.image(0), STATE);
        due("image", x.image(1), STATE);
    }

    static void promise01_noDrinkers() {
        RumourBrew x = new RumourBrew();
        due("brew", x.brew(0, 0), BAD);
        due("tap", x.tap(0, 0), BAD);
        due("drinker", x.drinker(0, 0), BAD);
        due("rumour", x.rumour(0), BAD);
        due("telling", x.telling(0, 1, 0), BAD);
        due("fewest", x.fewest(0, 1, 0, 0), BAD);
        due("fewest", x.fewest(0, 0, 1, 0), BAD);
        due("silence", x.silence(0, 0, 1, 0), BAD);
        due("who", x.who(0, 0, 0, 0, 1), BAD);
        due("blended", x.blended(0, 1, 0), BAD);
        due("silent", x.silent(0, 0, 1, 0, 0), BAD);
        due("kind", x.kind(0), BAD);
        due("as", x.as(0, 0), BAD);
        due("ask", x.ask(0, 0), BAD);
    }

    static void promise01_casksAreMissing() {
        RumourBrew x = new RumourBrew();
        for (int cask = 0; cask < 4; cask++) {
            due("cask", x.cask(cask, 0), NONE);
            due("water", x.water(cask), STATE);
            due("blend", x.blend(cask, 3 - cask), STATE);
            due("malts", x.malts(cask, 0, 0, 1), STATE);
            due("fewest of nobody", x.fewest(cask, 0, 0, 0), STATE);
            due("goesOff", x.goesOff(cask, 0), STATE);
            due("best", x.best(cask, 0), STATE);
        }
    }

    static void promise01_rowsAreMissing() {
        RumourBrew x = new RumourBrew();
        for (int row = 0; row < 8; row++) {
            due("set", x.set(row, 0, 0), NULL);
            due("copy", x.copy(row, 0, row, 0, 0), NULL);
            due("drop", x.drop(row), NULL);
        }
    }

    static void promise01_tapeIsEmpty() {
        due("the first byte", new RumourBrew().feed('o'), 1);
        due("town", new RumourBrew().town(), -1000100);
    }

    static void promise01_noFaultFindingOrTrace() {
        RumourBrew x = new RumourBrew();
        due("fault", x.fault(), 0);
        due("status", x.status(), 0);
        due("trace", x.trace(0), NONE);
    }

    static void promise01_nothingKept() {
        RumourBrew x = new RumourBrew();
        due("undo", x.undo(), STATE);
        due("restore(0)", x.restore(0), STATE);
        due("restore(1)", x.restore(1), STATE);
    }

    static void promise01_objectsAreApart() {
        RumourBrew x = new RumourBrew();
        RumourBrew other = in(TWO);
        other.row(0, 0, 1);
        other.feed('o');
        other.brew(0, 1);
        for (int what = 0; what < 8; what++) {
            due("count(" + what + ")", x.count(what), 0);
        }
    }

    static void promise01_constants() {
        due("NONE", RumourBrew.NONE, -1000000);
        due("BAD", RumourBrew.BAD, -1000001);
        due("STATE", RumourBrew.STATE, -1000002);
        due("FULL", RumourBrew.FULL, -1000003);
    }

    // ---- 2: row

    static void promise02_rows0To7() {
        RumourBrew x = new RumourBrew();
        due("-1", x.row(-1, 0, 1), BAD);
        due("8", x.row(8, 0, 1), BAD);
        due("the least", x.row(LEAST, 0, 1), BAD);
        due("the most", x.row(MOST, 0, 1), BAD);
        due("none is there", x.count(0), 0);
        for (int row = 0; row < 8; row++) {
            due("row " + row, x.row(row, 0, row), row);
            due("so many", x.count(0), row + 1);
        }
        due("8, all being there", x.row(8, 0, 1), BAD);
    }

    static void promise02_lanes0To2() {
        RumourBrew x = new RumourBrew();
        due("-1", x.row(0, -1, 1), BAD);
        due("3", x.row(0, 3, 1), BAD);
        due("the least", x.row(0, LEAST, 1), BAD);
        due("the most", x.row(0, MOST, 1), BAD);
        due("none is there", x.count(0), 0);
        for (int lane = 0; lane < 3; lane++) {
            due("lane " + lane, x.row(lane, lane, 1), 1);
            due("it is that", laneOf(x, lane, 0), lane);
        }
    }

    static void promise02_items0To40() {
        RumourBrew x = new RumourBrew();
        due("41", x.row(0, 0, 41), BAD);
        due("the most", x.row(0, 0, MOST), BAD);
        due("none is there", x.count(0), 0);
        due("0", x.row(0, 0, 0), 0);
        due("it is there", x.count(0), 1);
        due("0 items", x.drop(0), 0);
        due("40", x.row(0, 2, 40), 40);
        due("40 items", x.drop(0), 40);
    }

    static void promise02_fewerThanNoneIsSize() {
        RumourBrew x = new RumourBrew();
        due("-1", x.row(0, 0, -1), SIZE);
        due("status", x.status(), 4);
        due("the least", x.row(7, 2, LEAST), SIZE);
        due("none is there", x.count(0), 0);
    }

    static void promise02_badAheadOfSize() {
        RumourBrew x = new RumourBrew();
        due("row and n", x.row(8, 0, -1), BAD);
        due("row below and n", x.row(-1, 0, -1), BAD);
        due("lane and n", x.row(0, 3, -1), BAD);
        due("lane below and n", x.row(0, -1, -1), BAD);
        due("status", x.status(), 0);
    }

    static void promise02_itemsAre0AtFirst() {
        RumourBrew x = in(ONE_BOY);
        x.brew(0, 1);
        for (int lane = 0; lane < 3; lane++) {
            x.row(lane, lane, 40);
            noughts(x, lane);
        }
    }

    /** The boy never believes, and is the only one: by each pair of 0 and 0 it is so, and by no other. */
    private static void noughts(RumourBrew x, int row) {
        for (int i = 0; i < 40; i += 4) {
            due("items from " + i + " on", x.malts(0, row, i, 2), ALL_MALTS);
        }
    }

    static void promise02_itemsAre0Anew() {
        RumourBrew x = in(ONE_BOY);
        x.brew(0, 1);
        x.row(0, 2, 40);
        for (int i = 0; i < 40; i++) {
            x.set(0, i, -1);
        }
        due("an item is not 0", x.malts(0, 0, 0, 1), BAD);
        x.row(0, 2, 1);
        due("a smaller one", x.set(0, 1, 0), PLACE);
        x.row(0, 2, 40);
        noughts(x, 0);
    }

    static void promise02_inPlaceOfWhatIsThere() {
        RumourBrew x = new RumourBrew();
        x.row(3, 2, 5);
        due("another", x.row(3, 0, 2), 2);
        due("lane", laneOf(x, 3, 0), 0);
        due("behind its end", x.set(3, 2, 0), PLACE);
        due("one row", x.count(0), 1);
        due("a larger one", x.row(3, 1, 40), 40);
        due("lane", laneOf(x, 3, 39), 1);
    }

    static void promise02_refusedLeavesTheRow() {
        RumourBrew x = withReadableRows();
        fill(x, 0, 1, 3, 4, 5);
        due("SIZE", x.row(0, 2, -1), SIZE);
        due("n", x.row(0, 2, 41), BAD);
        due("lane", x.row(0, 3, 2), BAD);
        items(x, 0, 1, 3, 4, 5);
        due("lane", laneOf(x, 0, 2), 1);
        due("size", x.drop(0), 3);
    }

    // ---- 3: set

    static void promise03_rows0To7() {
        RumourBrew x = new RumourBrew();
        for (int row = 0; row < 8; row++) {
            x.row(row, 0, 1);
            due("row " + row, x.set(row, 0, row), row);
        }
        due("-1", x.set(-1, 0, 0), BAD);
        due("8", x.set(8, 0, 0), BAD);
        due("the least", x.set(LEAST, 0, 0), BAD);
        due("the most", x.set(MOST, 0, 0), BAD);
    }

    static void promise03_places() {
        RumourBrew x = new RumourBrew();
        x.row(0, 0, 40);
        x.row(1, 0, 3);
        due("0", x.set(0, 0, 1), 1);
        due("39 of 40", x.set(0, 39, 1), 1);
        due("40 of 40", x.set(0, 40, 1), PLACE);
        due("2 of 3", x.set(1, 2, 1), 1);
        due("3 of 3", x.set(1, 3, 1), PLACE);
        due("-1", x.set(1, -1, 1), PLACE);
        due("the least", x.set(1, LEAST, 1), PLACE);
        due("the most", x.set(1, MOST, 1), PLACE);
        due("status", x.status(), 2);
    }

    static void promise03_emptyRowHasNoPlace() {
        RumourBrew x = new RumourBrew();
        x.row(0, 2, 0);
        due("0", x.set(0, 0, 1), PLACE);
        due("-1", x.set(0, -1, 1), PLACE);
    }

    static void promise03_bytesWrapAround() {
        RumourBrew x = new RumourBrew();
        x.row(0, 0, 1);
        int[][] cuts = {{127, 127}, {128, -128}, {255, -1}, {256, 0}, {-1, -1}, {-128, -128}, {-129, 127},
            {LEAST, 0}, {MOST, -1}, {0, 0}};
        for (int[] cut : cuts) {
            due("byte " + cut[0], x.set(0, 0, cut[0]), cut[1]);
        }
    }

    static void promise03_shortsWrapAround() {
        RumourBrew x = new RumourBrew();
        x.row(0, 1, 1);
        int[][] cuts = {{32767, 32767}, {32768, -32768}, {65535, -1}, {65536, 0}, {-32768, -32768}, {-32769, 32767},
            {255, 255}, {LEAST, 0}, {MOST, -1}};
        for (int[] cut : cuts) {
            due("short " + cut[0], x.set(0, 0, cut[0]), cut[1]);
        }
    }

    static void promise03_intsAreWhole() {
        RumourBrew x = new RumourBrew();
        x.row(0, 2, 1);
        for (int v : new int[] {LEAST, MOST, 0, -1, 65536, -32769}) {
            due("int " + v, x.set(0, 0, v), v);
        }
    }

    static void promise03_whatItIsThenIsKept() {
        RumourBrew x = withReadableRows();
        fill(x, 0, 0, 256 + 5, 4, 3);
        items(x, 0, 0, 5, 4, 3);
        fill(x, 1, 1, 65536 + 2, 256 + 2);
        due("the lowest bits", item(x, 1, 1, 0), 2);
        due("more than a byte", item(x, 1, 1, 1), BAD);
    }

    static void promise03_badAheadOfNullAheadOfPlace() {
        RumourBrew x = new RumourBrew();
        due("row and place", x.set(8, -1, 0), BAD);
        due("missing and place", x.set(0, -1, 0), NULL);
        due("status", x.status(), 1);
        due("missing and place", x.set(0, 40, 0), NULL);
    }

    static void promise03_refusedLeavesTheItems() {
        RumourBrew x = withReadableRows();
        fill(x, 0, 2, 1, 2, 3);
        x.set(0, 3, 5);
        x.set(0, -1, 5);
        x.set(1, 0, 5);
        items(x, 0, 2, 1, 2, 3);
        due("a missing row stays so", x.count(0), 2);
    }

    // ---- 4: copy

    static void promise04_rows0To7() {
        RumourBrew x = new RumourBrew();
        x.row(0, 0, 1);
        x.row(7, 0, 1);
        due("7 to 0", x.copy(7, 0, 0, 0, 1), 1);
        due("0 to 7", x.copy(0, 0, 7, 0, 1), 1);
        due("a -1", x.copy(-1, 0, 0, 0, 1), BAD);
        due("a 8", x.copy(8, 0, 0, 0, 1), BAD);
        due("b -1", x.copy(0, 0, -1, 0, 1), BAD);
        due("b 8", x.copy(0, 0, 8, 0, 1), BAD);
        due("the least", x.copy(LEAST, 0, 0, 0, 1), BAD);
        due("the most", x.copy(0, 0, MOST, 0, 1), BAD);
    }

    static void promise04_wholeRows() {
        RumourBrew x = new RumourBrew();
        x.row(0, 1, 40);
        x.row(1, 1, 40);
        due("40", x.copy(0, 0, 1, 0, 40), 40);
        due("40 in itself", x.copy(0, 0, 0, 0, 40), 40);
        due("41", x.copy(0, 0, 1, 0, 41), PLACE);
        due("status", x.status(), 2);
    }

    static void promise04_endOfA() {
        RumourBrew x = new RumourBrew();
        x.row(0, 1, 5);
        x.row(1, 1, 9);
        due("the last", x.copy(0, 4, 1, 0, 1), 1);
        due("the last two", x.copy(0, 3, 1, 0, 2), 2);
        due("beyond by one", x.copy(0, 3, 1, 0, 3), PLACE);
        due("all and one", x.copy(0, 0, 1, 0, 6), PLACE);
        due("at the end", x.copy(0, 5, 1, 0, 1), PLACE);
        due("none, at the end", x.copy(0, 5, 1, 0, 0), 0);
        due("none, behind the end", x.copy(0, 6, 1, 0, 0), PLACE);
    }

    static void promise04_endOfB() {
        RumourBrew x = new RumourBrew();
        x.row(0, 1, 9);
        x.row(1, 1, 5);
        due("the last", x.copy(0, 0, 1, 4, 1), 1);
        due("the last two", x.copy(0, 0, 1, 3, 2), 2);
        due("beyond by one", x.copy(0, 0, 1, 3, 3), PLACE);
        due("all and one", x.copy(0, 0, 1, 0, 6), PLACE);
        due("at the end", x.copy(0, 0, 1, 5, 1), PLACE);
        due("none, at the end", x.copy(0, 0, 1, 5, 0), 0);
        due("none, behind the end", x.copy(0, 0, 1, 6, 0), PLACE);
    }

    static void promise04_below0IsPlace() {
        RumourBrew x = new RumourBrew();
        x.row(0, 0, 5);
        x.row(1, 0, 5);
        due("i -1", x.copy(0, -1, 1, 0, 1), PLACE);
        due("i -1, none", x.copy(0, -1, 1, 0, 0), PLACE);
        due("j -1", x.copy(0, 0, 1, -1, 1), PLACE);
        due("j -1, none", x.copy(0, 0, 1, -1, 0), PLACE);
        due("n -1", x.copy(0, 0, 1, 0, -1), PLACE);
        due("n -1, in the midst", x.copy(0, 3, 1, 3, -1), PLACE);
        due("i the least", x.copy(0, LEAST, 1, 0, 1), PLACE);
        due("j the least", x.copy(0, 0, 1, LEAST, 1), PLACE);
        due("n the least", x.copy(0, 0, 1, 0, LEAST), PLACE);
    }

    static void promise04_sumsThatWrapAround() {
        RumourBrew x = new RumourBrew();
        x.row(0, 0, 5);
        x.row(1, 0, 5);
        due("i + n", x.copy(0, 1, 1, 0, MOST), PLACE);
        due("i + n", x.copy(0, MOST, 1, 0, 1), PLACE);
        due("i + n", x.copy(0, MOST, 1, 0, MOST), PLACE);
        due("j + n", x.copy(0, 0, 1, MOST, 1), PLACE);
        due("i + n", x.copy(0, LEAST, 1, 0, LEAST), PLACE);
    }

    static void promise04_emptyRows() {
        RumourBrew x = new RumourBrew();
        x.row(0, 0, 0);
        x.row(1, 0, 0);
        due("none", x.copy(0, 0, 1, 0, 0), 0);
        due("one", x.copy(0, 0, 1, 0, 1), PLACE);
        due("none, behind the end", x.copy(0, 1, 1, 0, 0), PLACE);
    }

    static void promise04_asTheyWereAheadUpwards() {
        RumourBrew x = withReadableRows();
        fill(x, 0, 2, 0, 1, 2, 3, 4, 5);
        due("by one", x.copy(0, 0, 0, 1, 5), 5);
        items(x, 0, 2, 0, 0, 1, 2, 3, 4);
        fill(x, 1, 0, 0, 1, 2, 3, 4, 5);
        due("by three", x.copy(1, 0, 1, 3, 3), 3);
        items(x, 1, 0, 0, 1, 2, 0, 1, 2);
    }

    static void promise04_asTheyWereAheadDownwards() {
        RumourBrew x = withReadableRows();
        fill(x, 0, 1, 0, 1, 2, 3, 4, 5);
        due("by one", x.copy(0, 1, 0, 0, 5), 5);
        items(x, 0, 1, 1, 2, 3, 4, 5, 5);
    }

    static void promise04_nothingElseChanges() {
        RumourBrew x = withReadableRows();
        fill(x, 0, 0, 1, 2, 3);
        fill(x, 1, 0, 5, 5, 5, 5);
        due("two", x.copy(0, 0, 1, 1, 2), 2);
        items(x, 0, 0, 1, 2, 3);
        items(x, 1, 0, 5, 1, 2, 5);
    }

    static void promise04_badAheadOfNull() {
        RumourBrew x = new RumourBrew();
        due("b, a missing", x.copy(0, 0, 8, 0, 1), BAD);
        due("a, b missing", x.copy(-1, 0, 0, 0, 1), BAD);
    }

    static void promise04_nullAheadOfStoreAndPlace() {
        RumourBrew x = new RumourBrew();
        x.row(0, 2, 1);
        due("a missing", x.copy(1, -1, 0, 9, -1), NULL);
        due("b missing", x.copy(0, -1, 1, 9, -1), NULL);
        due("status", x.status(), 1);
        x.row(1, 0, 1);
        x.drop(1);
        due("b missing, of another lane before", x.copy(0, 0, 1, 0, 1), NULL);
    }

    static void promise04_storeAheadOfPlace() {
        RumourBrew x = new RumourBrew();
        for (int lane = 0; lane < 3; lane++) {
            x.row(lane, lane, 2);
        }
        for (int a = 0; a < 3; a++) {
            for (int b = 0; b < 3; b++) {
                due("lanes " + a + " and " + b, x.copy(a, 0, b, 0, 2), a == b ? 2 : STORE);
                due("status", x.status(), a == b ? 0 : 5);
                due("beyond, too", x.copy(a, 0, b, 0, 3), a == b ? PLACE : STORE);
                due("none at all", x.copy(a, 0, b, 0, 0), a == b ? 0 : STORE);
            }
        }
    }

    static void promise04_foundLeavesTheItems() {
        RumourBrew x = withReadableRows();
        fill(x, 0, 0, 1, 2, 3);
        fill(x, 1, 0, 5, 4);
        fill(x, 2, 1, 5, 4);
        due("PLACE: two of three would fit", x.copy(0, 0, 1, 0, 3), PLACE);
        due("PLACE", x.copy(0, 2, 1, 0, 2), PLACE);
        due("STORE", x.copy(0, 0, 2, 0, 1), STORE);
        items(x, 1, 0, 5, 4);
        items(x, 2, 1, 5, 4);
    }

    // ---- 5: drop

    static void promise05_rows0To7() {
        RumourBrew x = new RumourBrew();
        for (int row = 0; row < 8; row++) {
            x.row(row, 0, row);
        }
        due("-1", x.drop(-1), BAD);
        due("8", x.drop(8), BAD);
        due("the least", x.drop(LEAST), BAD);
        due("the most", x.drop(MOST), BAD);
        due("all are there", x.count(0), 8);
        for (int row = 0; row < 8; row++) {
            due("row " + row, x.drop(row), row);
            due("so many", x.count(0), 7 - row);
        }
    }

    static void promise05_emptyAndFull() {
        RumourBrew x = new RumourBrew();
        x.row(0, 2, 0);
        due("empty", x.drop(0), 0);
        x.row(0, 2, 40);
        due("full", x.drop(0), 40);
        due("none is there", x.count(0), 0);
    }

    static void promise05_missingIsNull() {
        RumourBrew x = new RumourBrew();
        x.row(2, 0, 3);
        x.drop(2);
        due("again", x.drop(2), NULL);
        due("status", x.status(), 1);
        due("set", x.set(2, 0, 1), NULL);
        due("copy", x.copy(2, 0, 2, 0, 0), NULL);
    }

    static void promise05_madeAnew() {
        RumourBrew x = withReadableRows();
        fill(x, 0, 2, 5, 5);
        x.drop(0);
        due("anew", x.row(0, 0, 2), 2);
        items(x, 0, 0, 0, 0);
        due("lane", laneOf(x, 0, 0), 0);
    }

    static void promise05_othersStay() {
        RumourBrew x = withReadableRows();
        fill(x, 0, 0, 1);
        fill(x, 1, 0, 2, 3);
        x.drop(0);
        items(x, 1, 0, 2, 3);
    }
}
