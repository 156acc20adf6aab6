/** Promises 9 to 17: ACTS and how many are kept, the bounds of casks, MALT, DAYS, and what is shown of them. */
public final class ActBoundsTest extends Cases {
    public static void main(String[] args) throws Exception {
        run(ActBoundsTest.class, 9, 17);
    }

    private static void cask(RumourBrew x, int cask, int whom, int malt, int age) {
        due("whom of " + cask, x.cask(cask, 0), whom);
        due("malt of " + cask, x.cask(cask, 1), malt);
        due("age of " + cask, x.cask(cask, 2), age);
    }

    // ---- 9: undo

    static void promise09_noneIsState() {
        due("no town", new RumourBrew().undo(), STATE);
        RumourBrew x = in(TWO);
        due("no act", x.undo(), STATE);
        x.brew(0, 1);
        due("one", x.undo(), 0);
        due("no more", x.undo(), STATE);
        due("count", x.count(6), 0);
    }

    static void promise09_24AreKept() {
        RumourBrew x = in(TWO);
        x.brew(0, 20);
        for (int n = 2; n <= 24; n++) {
            x.tap(0, 1);
            due("acts", x.count(6), n);
        }
        for (int left = 23; left >= 0; left--) {
            due("undo", x.undo(), left);
        }
        due("all are undone", x.cask(0, 0), NONE);
        due("none", x.undo(), STATE);
    }

    static void promise09_theOldestOf25IsForgotten() {
        RumourBrew x = in(TWO);
        x.brew(0, 20);
        for (int n = 2; n <= 25; n++) {
            x.tap(0, 1);
        }
        due("acts", x.count(6), 24);
        for (int left = 23; left >= 0; left--) {
            due("undo", x.undo(), left);
        }
        due("none", x.undo(), STATE);
        cask(x, 0, 0, 20, 0);
    }

    static void promise09_manyMoreThanAreKept() {
        RumourBrew x = in(TWO);
        for (int k = 0; k < 5; k++) {
            x.days(24);
        }
        x.days(7);
        due("acts", x.count(6), 24);
        for (int left = 23; left >= 0; left--) {
            due("undo", x.undo(), left);
            due("day", x.count(4), 103 + left);
        }
        due("none", x.undo(), STATE);
        due("day", x.count(4), 103);
    }

    static void promise09_brewUndone() {
        RumourBrew x = in(TWO);
        x.brew(1, 5);
        x.brew(0, 7);
        due("undo", x.undo(), 1);
        due("missing", x.cask(1, 0), NONE);
        cask(x, 0, 1, 5, 0);
        due("its number is free", x.brew(1, 2), 1);
    }

    static void promise09_eachDayByItself() {
        RumourBrew x = in(TWO);
        x.brew(1, 5);
        x.days(3);
        due("a day", x.undo(), 3);
        due("day", x.count(4), 2);
        cask(x, 0, 1, 5, 2);
        due("a day", x.undo(), 2);
        due("a day", x.undo(), 1);
        due("day", x.count(4), 0);
        cask(x, 0, 1, 5, 0);
    }

    static void promise09_tapUndone() {
        RumourBrew x = in(TWO);
        x.brew(1, 9);
        x.tap(0, 0);
        x.tap(0, 1);
        due("notes", x.rumour(1), 3);
        due("undo", x.undo(), 2);
        due("the note before stays", x.rumour(1), 1);
        cask(x, 0, 1, 8, 0);
        x.tap(0, 0);
        due("a tap that notes nothing new", x.undo(), 2);
        due("the note before stays", x.rumour(1), 1);
        due("undo", x.undo(), 1);
        due("no note", x.count(5), 0);
        cask(x, 0, 1, 9, 0);
    }

    static void promise09_tapOfMalt0Undone() {
        RumourBrew x = in(TWO);
        x.brew(1, 0);
        x.tap(0, 0);
        due("an act", x.count(6), 2);
        due("a note", x.count(5), 1);
        due("undo", x.undo(), 1);
        cask(x, 0, 1, 0, 0);
        due("no note", x.count(5), 0);
    }

    static void promise09_waterUndone() {
        RumourBrew x = in(TWO);
        x.brew(0, 19);
        x.water(0);
        x.water(0);
        due("undo", x.undo(), 2);
        cask(x, 0, 0, 9, 0);
        due("undo", x.undo(), 1);
        cask(x, 0, 0, 19, 0);
    }

    static void promise09_waterOfMalt0IsAnAct() {
        RumourBrew x = in(TWO);
        x.brew(0, 0);
        x.water(0);
        due("acts", x.count(6), 2);
        due("undo", x.undo(), 1);
        cask(x, 0, 0, 0, 0);
    }

    static void promise09_blendUndone() {
        RumourBrew x = in(TWO);
        x.brew(0, 15);
        x.days(2);
        x.brew(1, 12);
        x.days(1);
        x.blend(0, 1);
        due("undo", x.undo(), 5);
        cask(x, 0, 0, 15, 3);
        cask(x, 1, 1, 12, 1);
        x.blend(1, 0);
        due("undo", x.undo(), 5);
        cask(x, 0, 0, 15, 3);
        cask(x, 1, 1, 12, 1);
    }

    static void promise09_refusedIsNoAct() {
        RumourBrew x = in(TWO);
        x.brew(0, 1);
        x.brew(0, 21);
        x.days(0);
        x.days(25);
        x.tap(1, 0);
        x.tap(0, 2);
        x.water(1);
        x.water(4);
        x.blend(0, 0);
        x.blend(0, 1);
        due("one act", x.count(6), 1);
        due("undo", x.undo(), 0);
        due("missing", x.cask(0, 0), NONE);
    }

    static void promise09_whatIsForetoldIsNoAct() {
        RumourBrew x = in(TWO);
        x.brew(0, 9);
        x.brew(1, 9);
        x.telling(0, 1, 0);
        x.fewest(0, 1, 0, 0);
        x.silence(0, 0, 1, 0);
        x.best(0, 0);
        x.blended(0, 1, 0);
        x.silent(0, 0, 1, 5, 0);
        x.drawn(60, 1, 0);
        x.image(0);
        due("two acts", x.count(6), 2);
    }

    static void promise09_anUndoIsNoAct() {
        RumourBrew x = in(TWO);
        x.brew(0, 9);
        x.water(0);
        x.water(0);
        due("undo", x.undo(), 2);
        due("undo", x.undo(), 1);
        cask(x, 0, 0, 9, 0);
    }

    static void promise09_actsBehindAnUndo() {
        RumourBrew x = in(TWO);
        x.days(24);
        x.undo();
        x.undo();
        x.brew(0, 9);
        due("acts", x.count(6), 23);
        x.water(0);
        x.water(0);
        due("acts", x.count(6), 24);
        x.undo();
        cask(x, 0, 0, 4, 0);
        x.undo();
        x.undo();
        due("missing", x.cask(0, 0), NONE);
        for (int left = 20; left >= 0; left--) {
            due("undo", x.undo(), left);
        }
        due("day", x.count(4), 1);
        due("none", x.undo(), STATE);
    }

    static void promise09_noneBehindATown() {
        RumourBrew x = in(TWO);
        x.days(24);
        fed(x, TWO).town();
        due("none", x.undo(), STATE);
        x.days(1);
        due("one", x.undo(), 0);
        due("none", x.undo(), STATE);
        due("day", x.count(4), 0);
    }

    static void promise09_noneBehindARestore() {
        RumourBrew x = in(TWO);
        x.days(3);
        x.image(0);
        due("an image keeps them", x.count(6), 3);
        x.restore(0);
        due("none", x.undo(), STATE);
        due("day", x.count(4), 3);
    }

    // ---- 10: brew

    static void promise10_malt0To20() {
        RumourBrew x = in(TWO);
        due("-1", x.brew(0, -1), BAD);
        due("21", x.brew(0, 21), BAD);
        due("the least", x.brew(0, LEAST), BAD);
        due("the most", x.brew(0, MOST), BAD);
        due("none is there", x.count(3), 0);
        due("0", x.brew(0, 0), 0);
        due("20", x.brew(0, 20), 1);
        cask(x, 0, 0, 0, 0);
        cask(x, 1, 0, 20, 0);
    }

    static void promise10_whomIsADrinker() {
        RumourBrew x = in(TWO);
        due("-1", x.brew(-1, 1), BAD);
        due("2 of 2", x.brew(2, 1), BAD);
        due("the least", x.brew(LEAST, 1), BAD);
        due("the most", x.brew(MOST, 1), BAD);
        due("0", x.brew(0, 1), 0);
        due("1 of 2", x.brew(1, 1), 1);
        RumourBrew six = in(APART);
        due("5 of 6", six.brew(5, 1), 0);
        due("6 of 6", six.brew(6, 1), BAD);
    }

    static void promise10_noTownIsBad() {
        due("no drinker", new RumourBrew().brew(0, 20), BAD);
    }

    static void promise10_fourAtOnce() {
        RumourBrew x = in(TWO);
        for (int cask = 0; cask < 4; cask++) {
            due("brew", x.brew(cask % 2, 10 + cask), cask);
            due("casks", x.count(3), cask + 1);
        }
        due("a fifth", x.brew(0, 1), FULL);
        for (int cask = 0; cask < 4; cask++) {
            cask(x, cask, cask % 2, 10 + cask, 0);
        }
        due("acts", x.count(6), 4);
    }

    static void promise10_badAheadOfFull() {
        RumourBrew x = in(TWO);
        for (int cask = 0; cask < 4; cask++) {
            x.brew(0, 1);
        }
        due("malt", x.brew(0, 21), BAD);
        due("malt", x.brew(0, -1), BAD);
        due("whom", x.brew(2, 1), BAD);
        due("FULL", x.brew(1, 20), FULL);
    }

    static void promise10_theLeastThatIsMissing() {
        RumourBrew x = in(TWO);
        for (int cask = 0; cask < 4; cask++) {
            x.brew(0, 1);
        }
        x.blend(2, 3);
        x.blend(0, 1);
        due("0", x.brew(1, 1), 0);
        due("2", x.brew(1, 1), 2);
        due("FULL", x.brew(1, 1), FULL);
        x.blend(3, 2);
        due("3", x.brew(1, 1), 3);
    }

    static void promise10_itIsDay0Old() {
        RumourBrew x = in(TWO);
        x.brew(0, 1);
        x.days(5);
        due("another", x.brew(1, 3), 1);
        cask(x, 1, 1, 3, 0);
        x.blend(0, 1);
        x.days(2);
        due("in a place that was used", x.brew(1, 8), 0);
        cask(x, 0, 1, 8, 0);
        x.days(1);
        cask(x, 0, 1, 8, 1);
    }

    // ---- 11: days

    static void promise11_n1To24() {
        RumourBrew x = in(TWO);
        due("0", x.days(0), BAD);
        due("-1", x.days(-1), BAD);
        due("25", x.days(25), BAD);
        due("the least", x.days(LEAST), BAD);
        due("the most", x.days(MOST), BAD);
        due("day", x.count(4), 0);
        due("no act", x.count(6), 0);
        due("1", x.days(1), 0);
        due("24", x.days(24), 0);
        due("day", x.count(4), 25);
    }

    static void promise11_noTownAheadOfBad() {
        RumourBrew x = new RumourBrew();
        for (int n : new int[] {LEAST, -1, 0, 1, 24, 25, MOST}) {
            due("days(" + n + ")", x.days(n), STATE);
        }
    }

    /** A town on that DAY, by as few calls as there can be. */
    private static RumourBrew onDay(int day) {
        RumourBrew x = in(TWO);
        for (int left = day; left > 0; left -= 24) {
            x.days(Math.min(24, left));
        }
        due("day", x.count(4), day);
        return x;
    }

    static void promise11_theLastDay() {
        due("24 from 975 on", onDay(975).days(24), 0);
        due("24 from 976 on", onDay(976).days(24), FULL);
        due("1 from 998 on", onDay(998).days(1), 0);
        due("2 from 998 on", onDay(998).days(2), FULL);
        RumourBrew last = onDay(999);
        due("1 from 999 on", last.days(1), FULL);
        due("24 from 999 on", last.days(24), FULL);
    }

    static void promise11_fullLeavesTheDay() {
        RumourBrew x = onDay(990);
        x.brew(0, 1);
        due("FULL", x.days(10), FULL);
        due("day", x.count(4), 990);
        due("age", x.cask(0, 2), 0);
        due("undo", x.undo(), 23);
        due("the brew was the latest", x.count(3), 0);
        due("9 are left", x.days(9), 0);
        due("day", x.count(4), 999);
        due("undo", x.undo(), 23);
        due("one again", x.days(1), 0);
    }

    static void promise11_badAheadOfFull() {
        RumourBrew x = onDay(999);
        due("0", x.days(0), BAD);
        due("25", x.days(25), BAD);
    }

    static void promise11_anActEach() {
        RumourBrew x = in(TWO);
        x.days(5);
        due("acts", x.count(6), 5);
        x.days(24);
        due("acts", x.count(6), 24);
    }

    static void promise11_casksThatAreOff() {
        RumourBrew x = in("o0,3,0;d0,0;");
        x.brew(0, 1);
        due("day 1", x.days(1), 0);
        x.brew(0, 1);
        due("day 3: as old as it keeps", x.days(2), 0);
        due("day 4: older", x.days(1), 1);
        x.brew(0, 1);
        x.brew(0, 1);
        due("day 5", x.days(1), 3);
        due("day 7", x.days(2), 3);
        due("day 8", x.days(1), 15);
    }

    static void promise11_nothingButCasksIsOff() {
        RumourBrew x = in("o0,1,0;d0,0;d0,0;d0,0;d0,0;d0,0;d0,0;");
        for (int cask = 0; cask < 4; cask++) {
            x.brew(0, 20);
        }
        for (int d = 0; d < 6; d++) {
            x.tap(0, d);
        }
        due("all MALT and notes, none OFF", x.days(1), 0);
        due("all four", x.days(1), 15);
    }

    static void promise11_missingCasksAreNotOff() {
        RumourBrew x = in("o0,1,0;d0,0;");
        due("none", x.days(24), 0);
        x.brew(0, 1);
        x.brew(0, 1);
        x.blend(0, 1);
        due("the other one", x.days(24), 2);
        x.brew(0, 1);
        due("a new one in its place", x.days(1), 2);
        due("older", x.days(1), 3);
    }

    // ---- 12: tap

    static void promise12_casks0To3() {
        RumourBrew x = in(TWO);
        for (int cask = 0; cask < 4; cask++) {
            due("missing", x.tap(cask, 0), STATE);
        }
        due("-1", x.tap(-1, 0), BAD);
        due("4", x.tap(4, 0), BAD);
        due("the least", x.tap(LEAST, 0), BAD);
        due("the most", x.tap(MOST, 0), BAD);
        for (int cask = 0; cask < 4; cask++) {
            x.brew(1, 9);
            due("there", x.tap(cask, 0), 1);
        }
    }

    static void promise12_drinkers() {
        RumourBrew x = in(APART);
        x.brew(0, 20);
        due("-1", x.tap(0, -1), BAD);
        due("6 of 6", x.tap(0, 6), BAD);
        due("the least", x.tap(0, LEAST), BAD);
        due("the most", x.tap(0, MOST), BAD);
        for (int d = 0; d < 6; d++) {
            due("at " + d, x.tap(0, d), 1 << d);
        }
        due("six tellings", x.cask(0, 1), 14);
    }

    static void promise12_badAheadOfState() {
        due("no town", new RumourBrew().tap(0, 0), BAD);
        RumourBrew x = in(TWO);
        due("drinker, a missing cask", x.tap(0, 2), BAD);
        due("a missing cask", x.tap(0, 1), STATE);
    }

    static void promise12_refusedLeavesAll() {
        RumourBrew x = in(TWO);
        x.brew(1, 9);
        x.tap(0, 2);
        x.tap(1, 0);
        x.tap(4, 0);
        cask(x, 0, 1, 9, 0);
        due("no note", x.count(5), 0);
        due("one act", x.count(6), 1);
    }

    static void promise12_maltIs0AtLeast() {
        RumourBrew x = in(TWO);
        x.brew(0, 1);
        x.tap(0, 0);
        cask(x, 0, 0, 0, 0);
        x.tap(0, 0);
        cask(x, 0, 0, 0, 0);
        due("acts", x.count(6), 3);
    }

    static void promise12_aTellingByMaltBefore() {
        RumourBrew x = in("o0,9,0;d5,0;");
        x.brew(0, 10);
        due("10 less 5 is DOUBT", x.tap(0, 0), 1);
        due("9 less 5 is less", x.tap(0, 0), 0);
        due("the note stays", x.rumour(0), 1);
        cask(x, 0, 0, 8, 0);
    }

    static void promise12_offIsTappedToo() {
        RumourBrew x = in("o0,1,0;d0,0;d1,1;");
        x.brew(1, 9);
        x.days(2);
        due("STRONG 0 is DOUBT 0", x.tap(0, 0), 1);
        due("and not DOUBT 1", x.tap(0, 1), 0);
        cask(x, 0, 1, 7, 2);
    }

    static void promise12_notesAreOfWhom() {
        RumourBrew x = in(TWO);
        x.brew(0, 9);
        x.brew(1, 9);
        x.tap(0, 0);
        x.tap(1, 0);
        x.tap(1, 1);
        due("of 0", x.rumour(0), 1);
        due("of 1", x.rumour(1), 3);
        due("all", x.count(5), 3);
        x.tap(1, 1);
        due("once noted", x.count(5), 3);
    }

    // ---- 13: water

    static void promise13_casks0To3() {
        RumourBrew x = in(TWO);
        for (int cask = 0; cask < 4; cask++) {
            due("missing", x.water(cask), STATE);
        }
        for (int cask = 0; cask < 4; cask++) {
            x.brew(0, 9);
            due("there", x.water(cask), 4);
        }
        due("-1", x.water(-1), BAD);
        due("4", x.water(4), BAD);
        due("the least", x.water(LEAST), BAD);
        due("the most", x.water(MOST), BAD);
        due("acts", x.count(6), 8);
    }

    static void promise13_halfIsCut() {
        for (int malt = 0; malt <= 20; malt++) {
            RumourBrew x = in(TWO);
            x.brew(1, malt);
            x.days(1);
            due("half of " + malt, x.water(0), malt >> 1);
            cask(x, 0, 1, malt >> 1, 1);
        }
    }

    static void promise13_downTo0() {
        RumourBrew x = in(TWO);
        x.brew(0, 20);
        for (int malt : new int[] {10, 5, 2, 1, 0, 0}) {
            due("half", x.water(0), malt);
        }
    }

    static void promise13_noTownIsState() {
        due("missing", new RumourBrew().water(3), STATE);
        due("BAD", new RumourBrew().water(4), BAD);
    }

    // ---- 14: blend

    static void promise14_casks0To3() {
        RumourBrew x = in(TWO);
        x.brew(0, 1);
        due("-1", x.blend(-1, 0), BAD);
        due("4", x.blend(4, 0), BAD);
        due("into -1", x.blend(0, -1), BAD);
        due("into 4", x.blend(0, 4), BAD);
        due("the least", x.blend(LEAST, 0), BAD);
        due("the most", x.blend(0, MOST), BAD);
        x.brew(0, 1);
        x.brew(0, 1);
        x.brew(0, 1);
        due("3 into 0", x.blend(3, 0), 2);
        due("0 into 2", x.blend(0, 2), 3);
        due("2 into 1", x.blend(2, 1), 4);
    }

    static void promise14_alikeIsBad() {
        RumourBrew x = in(TWO);
        due("missing", x.blend(0, 0), BAD);
        x.brew(0, 5);
        due("there", x.blend(0, 0), BAD);
        cask(x, 0, 0, 5, 0);
        due("alike, no cask", x.blend(4, 4), BAD);
    }

    static void promise14_missingIsState() {
        RumourBrew x = in(TWO);
        due("both", x.blend(0, 1), STATE);
        x.brew(0, 5);
        due("the latter", x.blend(0, 3), STATE);
        due("the former", x.blend(3, 0), STATE);
        due("BAD ahead of it", x.blend(3, 4), BAD);
        due("BAD ahead of it", x.blend(-1, 3), BAD);
        cask(x, 0, 0, 5, 0);
        due("one act", x.count(6), 1);
    }

    static void promise14_malt20AtMost() {
        int[][] sums = {{0, 0, 0}, {0, 20, 20}, {20, 0, 20}, {10, 9, 19}, {10, 10, 20}, {10, 11, 20}, {20, 20, 20}};
        for (int[] sum : sums) {
            RumourBrew x = in(TWO);
            x.brew(0, sum[0]);
            x.brew(1, sum[1]);
            due(sum[0] + " into " + sum[1], x.blend(0, 1), sum[2]);
            cask(x, 1, 1, sum[2], 0);
        }
    }

    static void promise14_whomAndAgeOfTheLatter() {
        RumourBrew x = in(TWO);
        x.brew(0, 3);
        x.days(4);
        x.brew(1, 2);
        x.days(1);
        due("the old one into the new one", x.blend(0, 1), 5);
        cask(x, 1, 1, 5, 1);
        due("missing", x.cask(0, 0), NONE);
        x.undo();
        due("the new one into the old one", x.blend(1, 0), 5);
        cask(x, 0, 0, 5, 5);
        due("missing", x.cask(1, 0), NONE);
        due("casks", x.count(3), 1);
    }

    static void promise14_theFormerIsMissing() {
        RumourBrew x = in(TWO);
        x.brew(0, 3);
        x.brew(0, 3);
        x.tap(0, 1);
        x.blend(0, 1);
        due("tap", x.tap(0, 0), STATE);
        due("water", x.water(0), STATE);
        due("blend", x.blend(0, 1), STATE);
        due("goesOff", x.goesOff(0, 0), STATE);
        due("its notes stay", x.rumour(0), 2);
    }

    // ---- 15: cask

    static void promise15_casksAndWhat() {
        RumourBrew x = in(TWO);
        x.brew(0, 1);
        for (int what = 0; what < 5; what++) {
            due("there", x.cask(0, what) == BAD ? 1 : 0, 0);
            due("missing", x.cask(3, what), NONE);
        }
        due("what -1", x.cask(0, -1), BAD);
        due("what 5", x.cask(0, 5), BAD);
        due("what the least", x.cask(0, LEAST), BAD);
        due("what the most", x.cask(0, MOST), BAD);
        due("-1", x.cask(-1, 0), BAD);
        due("4", x.cask(4, 0), BAD);
        due("the least", x.cask(LEAST, 0), BAD);
        due("the most", x.cask(MOST, 0), BAD);
    }

    static void promise15_badAheadOfNone() {
        RumourBrew x = new RumourBrew();
        due("what 5, no town", x.cask(0, 5), BAD);
        due("what -1, no town", x.cask(0, -1), BAD);
        due("no town", x.cask(0, 4), NONE);
        due("cask 4, no town", x.cask(4, 4), BAD);
    }

    static void promise15_strongByAThirdLess() {
        int[] strong = {0, 1, 2, 2, 3, 4, 4, 5, 6, 6, 7, 8, 8, 9, 10, 10, 11, 12, 12, 13, 14};
        for (int malt = 0; malt <= 20; malt++) {
            RumourBrew x = in("o1,1,0;d0,0;");
            x.brew(0, malt);
            due("young, " + malt, x.cask(0, 3), strong[malt]);
            x.days(1);
            due("OAK old, " + malt, x.cask(0, 3), malt);
            x.days(1);
            due("OFF, " + malt, x.cask(0, 3), 0);
            due("its MALT stays", x.cask(0, 1), malt);
        }
    }

    static void promise15_youngerThanOak() {
        RumourBrew x = in("o20,40,0;d0,0;");
        x.brew(0, 20);
        x.days(19);
        due("19 days", x.cask(0, 3), 14);
        x.days(1);
        due("20 days", x.cask(0, 3), 20);
        RumourBrew none = in("o0,40,0;d0,0;");
        none.brew(0, 20);
        due("OAK 0", none.cask(0, 3), 20);
    }

    static void promise15_olderThanKeeps() {
        RumourBrew x = in("o0,40,0;d0,0;");
        x.brew(0, 20);
        x.days(20);
        x.days(20);
        due("40 days: STRONG", x.cask(0, 3), 20);
        due("40 days: OFF", x.cask(0, 4), 0);
        x.days(1);
        due("41 days: STRONG", x.cask(0, 3), 0);
        due("41 days: OFF", x.cask(0, 4), 1);
        due("41 days", x.cask(0, 2), 41);
        x.undo();
        due("40 days again", x.cask(0, 4), 0);
    }

    static void promise15_offThoughYoungerThanOak() {
        RumourBrew x = in("o20,1,0;d0,0;");
        x.brew(0, 20);
        x.days(1);
        due("1 day", x.cask(0, 3), 14);
        x.days(1);
        due("2 days", x.cask(0, 3), 0);
        due("OFF", x.cask(0, 4), 1);
    }

    static void promise15_asOldAsTheLastDay() {
        RumourBrew x = in(TWO);
        x.brew(0, 20);
        for (int k = 0; k < 41; k++) {
            x.days(24);
        }
        x.days(15);
        due("999 days", x.cask(0, 2), 999);
    }

    // ---- 16: drinker

    static void promise16_drinkersAndWhat() {
        RumourBrew x = in(TWO);
        for (int what = 0; what < 3; what++) {
            due("1 of 2", x.drinker(1, what), what == 1 ? 1 : 0);
            due("2 of 2", x.drinker(2, what), BAD);
            due("-1", x.drinker(-1, what), BAD);
            due("the least", x.drinker(LEAST, what), BAD);
            due("the most", x.drinker(MOST, what), BAD);
        }
        due("what -1", x.drinker(0, -1), BAD);
        due("what 3", x.drinker(0, 3), BAD);
        due("what the least", x.drinker(0, LEAST), BAD);
        due("what the most", x.drinker(0, MOST), BAD);
        due("no town", new RumourBrew().drinker(0, 2), BAD);
    }

    static void promise16_sixDrinkers() {
        RumourBrew x = in("o0,1,0;d0,5;g1,4;w2,3;b3,2;r4,1;d12,0;t5,0;t5,1;t5,2;t5,3;t5,4;t0,5;");
        int[] doubts = {0, 1, 2, 3, 4, 12};
        int[] tells = {32, 0, 0, 0, 0, 31};
        for (int d = 0; d < 6; d++) {
            due("DOUBT", x.drinker(d, 0), doubts[d]);
            due("DISLIKES", x.drinker(d, 1), 5 - d);
            due("tells: a rat by ties alone", x.drinker(d, 2), tells[d]);
        }
        due("6 of 6", x.drinker(6, 0), BAD);
    }

    // ---- 17: rumour

    static void promise17_drinkers() {
        RumourBrew x = in(APART);
        for (int whom = 0; whom < 6; whom++) {
            due("nobody", x.rumour(whom), 0);
        }
        due("-1", x.rumour(-1), BAD);
        due("6 of 6", x.rumour(6), BAD);
        due("the least", x.rumour(LEAST), BAD);
        due("the most", x.rumour(MOST), BAD);
        due("2 of 2", in(TWO).rumour(2), BAD);
        due("no town", new RumourBrew().rumour(0), BAD);
    }

    static void promise17_nobodyAndEverybody() {
        RumourBrew x = in(APART);
        x.brew(5, 20);
        for (int d = 0; d < 6; d++) {
            due("so far", x.rumour(5), (1 << d) - 1);
            x.tap(0, d);
        }
        due("everybody", x.rumour(5), 63);
        due("of another", x.rumour(0), 0);
        due("all notes", x.count(5), 6);
    }

    static void promise17_staysWithoutTheCask() {
        RumourBrew x = in(TWO);
        x.brew(0, 20);
        x.brew(1, 20);
        x.tap(0, 1);
        x.blend(0, 1);
        x.days(24);
        due("noted", x.rumour(0), 2);
        due("not of the other", x.rumour(1), 0);
    }
}
