/** Promises 18 to 29: the bounds of what is foretold, and of images. */
public final class ForetoldBoundsTest extends Cases {
    /** 0 and 5 by a tie of their own and by each of the four others; the tenth tie leads back. */
    private static final String FIVE_WAYS = "o0,40,9;d0,0;d0,1;d0,2;d0,3;d0,4;d0,5;"
            + "t0,5;t0,1;t0,2;t0,3;t0,4;t1,5;t2,5;t3,5;t4,5;t1,0;";

    public static void main(String[] args) throws Exception {
        run(ForetoldBoundsTest.class, 18, 29);
    }

    private static void telling(RumourBrew x, int cask, int some, int... four) {
        for (int what = 0; what < 4; what++) {
            due("telling(" + cask + ", " + some + ", " + what + ")", x.telling(cask, some, what), four[what]);
        }
    }

    // ---- 18: telling

    static void promise18_casks0To3() {
        RumourBrew x = in(TWO);
        due("-1", x.telling(-1, 1, 0), BAD);
        due("4", x.telling(4, 1, 0), BAD);
        due("the least", x.telling(LEAST, 1, 0), BAD);
        due("the most", x.telling(MOST, 1, 0), BAD);
        for (int cask = 0; cask < 4; cask++) {
            due("missing", x.telling(cask, 1, 0), STATE);
            x.brew(1, 9);
            due("there", x.telling(cask, 1, 0), 1);
        }
    }

    static void promise18_someOfTheDrinkers() {
        RumourBrew x = in(TWO);
        x.brew(1, 9);
        due("0", x.telling(0, 0, 0), BAD);
        due("1", x.telling(0, 1, 1), 1);
        due("3", x.telling(0, 3, 1), 3);
        due("4", x.telling(0, 4, 1), BAD);
        due("5", x.telling(0, 5, 1), BAD);
        due("-1", x.telling(0, -1, 1), BAD);
        due("the least", x.telling(0, LEAST, 1), BAD);
        due("the most", x.telling(0, MOST, 1), BAD);
        RumourBrew six = in(APART);
        six.brew(0, 9);
        due("63", six.telling(0, 63, 1), 63);
        due("64", six.telling(0, 64, 1), BAD);
        due("65", six.telling(0, 65, 1), BAD);
    }

    static void promise18_what0To3() {
        RumourBrew x = in(TWO);
        x.brew(1, 9);
        due("-1", x.telling(0, 1, -1), BAD);
        due("4", x.telling(0, 1, 4), BAD);
        due("the least", x.telling(0, 1, LEAST), BAD);
        due("the most", x.telling(0, 1, MOST), BAD);
        telling(x, 0, 1, 1, 1, 0, 1);
    }

    static void promise18_badAheadOfState() {
        RumourBrew x = in(TWO);
        due("some", x.telling(0, 0, 0), BAD);
        due("some", x.telling(0, 4, 0), BAD);
        due("what", x.telling(0, 1, 4), BAD);
        due("missing", x.telling(0, 1, 3), STATE);
        due("no town, nobody there to be told", new RumourBrew().telling(0, 1, 0), BAD);
    }

    /** Whether 0 BELIEVES a saying: of 2, whom it does not mind; of 1, whom it DISLIKES; of itself. */
    private static void believesFrom(char sort, int doubt, int ofAny, int ofDisliked, int ofItself) {
        int[] from = {ofItself, ofDisliked, ofAny};
        for (int whom = 0; whom < 3; whom++) {
            for (int malt = 0; malt <= 20; malt++) {
                RumourBrew x = in("o0,9,1;" + sort + doubt + ",1;d0,0;d0,0;");
                x.brew(whom, malt);
                String call = sort + " " + doubt + " of " + whom + " by " + malt;
                due(call, x.telling(0, 1, 0) & 1, malt >= from[whom] ? 1 : 0);
            }
        }
    }

    static void promise18_doubtOrMore() {
        for (char sort : "dg".toCharArray()) {
            believesFrom(sort, 0, 0, 0, 5);
            believesFrom(sort, 3, 3, 0, 8);
            believesFrom(sort, 4, 4, 1, 9);
            believesFrom(sort, 12, 12, 9, 17);
        }
    }

    static void promise18_wifeByHalfOfStrong() {
        believesFrom('w', 0, 0, 0, 10);
        believesFrom('w', 1, 2, 0, 12);
        believesFrom('w', 4, 8, 2, 18);
        believesFrom('w', 5, 10, 4, 20);
        believesFrom('w', 6, 12, 6, 99);
        believesFrom('w', 10, 20, 14, 99);
        believesFrom('w', 11, 99, 16, 99);
    }

    static void promise18_boyAndRatNever() {
        believesFrom('b', 0, 99, 99, 99);
        believesFrom('r', 0, 99, 99, 99);
    }

    static void promise18_whoDislikesItselfDislikesNobody() {
        RumourBrew x = in("o0,9,1;d2,0;w2,1;");
        x.brew(0, 6);
        telling(x, 0, 1, 0, 1, 0, 1);
        x.brew(0, 7);
        telling(x, 1, 1, 1, 1, 0, 1);
        x.brew(1, 13);
        telling(x, 2, 2, 0, 2, 0, 1);
        x.brew(1, 14);
        telling(x, 3, 2, 2, 2, 0, 1);
    }

    /** How STRONG a saying by 0, told of 2, is for 1: as much DOUBT is overcome, and no more. */
    private static void passesOn(char sort, int malt, int strong) {
        for (int doubt = 0; doubt <= 12; doubt++) {
            RumourBrew x = in("o0,9,1;" + sort + "0,0;d" + doubt + ",1;b0,0;t0,1;");
            x.brew(2, malt);
            String call = sort + " " + malt + ", doubt " + doubt;
            due(call, x.telling(0, 1, 0) & 2, strong > 0 && strong >= doubt ? 2 : 0);
            due(call + " comes", x.telling(0, 1, 1) & 2, strong > 0 ? 2 : 0);
        }
    }

    static void promise18_plainAndWifePassOn1Less() {
        for (char sort : "dw".toCharArray()) {
            passesOn(sort, 0, 0);
            passesOn(sort, 1, 0);
            passesOn(sort, 2, 1);
            passesOn(sort, 12, 11);
        }
    }

    static void promise18_gossipPassesOn1More() {
        passesOn('g', 0, 1);
        passesOn('g', 1, 2);
        passesOn('g', 11, 12);
        passesOn('g', 10, 11);
    }

    static void promise18_boyPassesOn2Less() {
        passesOn('b', 0, 0);
        passesOn('b', 1, 0);
        passesOn('b', 2, 0);
        passesOn('b', 3, 1);
        passesOn('b', 13, 11);
    }

    static void promise18_ratPassesOnHalf() {
        passesOn('r', 0, 0);
        passesOn('r', 1, 0);
        passesOn('r', 2, 1);
        passesOn('r', 3, 1);
        passesOn('r', 19, 9);
        passesOn('r', 20, 10);
    }

    static void promise18_ratTellsAllOthersTiesOrNot() {
        RumourBrew x = in("o0,9,1;d0,1;d0,0;r0,0;d0,0;d0,0;d0,0;");
        x.brew(0, 2);
        // 1 to each of the others: 0 does not believe it of itself
        telling(x, 0, 4, 58, 63, 1, 6);
        RumourBrew tied = in("o0,9,1;d0,1;d0,0;r0,0;d0,0;t2,0;t3,2;");
        tied.brew(0, 20);
        telling(tied, 0, 8, 11, 15, 2, 4);
    }

    static void promise18_whoDoesNotBelieveDoesNotPassOn() {
        for (char sort : "dgw".toCharArray()) {
            RumourBrew x = in("o0,9,1;" + sort + "11,0;d0,1;d0,0;t0,1;");
            x.brew(2, 10);
            telling(x, 0, 1, 0, 1, 0, 1);
        }
    }

    static void promise18_passesOnOnceWhenItFirstComes() {
        // told both at once: 1 does not believe 4 at first; 5 by the gossip makes it, but 2 hears nothing
        RumourBrew x = in("o0,9,1;g0,0;d5,1;d0,2;t0,1;t1,2;");
        x.brew(2, 4);
        telling(x, 0, 3, 3, 3, 0, 2);
        telling(x, 0, 1, 3, 7, 2, 3);
        telling(x, 0, 2, 0, 2, 0, 1);
    }

    static void promise18_theMostStrongOfAStep() {
        // the boy gives 5 to 1, 2 and 4 (DOUBT 6); then the gossip 6 and the plain one 4 to 4, in both orders
        for (String two : new String[] {"g0,1;d0,2;", "d0,1;g0,2;"}) {
            RumourBrew x = in("o0,9,1;b0,0;" + two + "d0,3;d6,4;d0,5;t0,1;t0,2;t0,4;t1,4;t2,4;");
            x.brew(5, 7);
            telling(x, 0, 1, 22, 23, 1, 4);
            x.brew(5, 6);
            telling(x, 1, 1, 6, 23, 1, 4);
        }
    }

    static void promise18_eachHearsThoseAloneWhoTellIt() {
        // in one step the gossip gives 5 to 2 (DOUBT 5), the plain one 3 to 3 (DOUBT 4)
        RumourBrew x = in("o0,9,1;g0,0;d0,1;d5,2;d4,3;b0,0;t0,2;t1,3;");
        x.brew(4, 4);
        telling(x, 0, 3, 7, 15, 1, 4);
        RumourBrew turned = in("o0,9,1;d0,0;g0,1;d4,2;d5,3;b0,0;t0,2;t1,3;");
        turned.brew(4, 4);
        telling(turned, 0, 3, 11, 15, 1, 4);
    }

    static void promise18_noStepsAndMostSteps() {
        RumourBrew x = in("o0,9,9;d0,0;d0,1;d0,2;d0,3;d0,4;d0,5;t0,1;t1,2;t2,3;t3,4;t4,5;t5,0;");
        x.brew(5, 20);
        telling(x, 0, 1, 63, 63, 5, 54);
        telling(x, 0, 63, 63, 63, 0, 54);
        telling(x, 0, 33, 63, 63, 4, 54);
        x.brew(5, 5);
        telling(x, 1, 1, 31, 31, 4, 45);
        x.brew(5, 6);
        telling(x, 2, 1, 31, 63, 5, 54);
        x.brew(5, 1);
        telling(x, 3, 1, 1, 1, 0, 9);
    }

    static void promise18_comingAgainIsNoStep() {
        RumourBrew x = in("o0,9,1;d0,0;d0,1;t0,1;t1,0;");
        x.brew(1, 20);
        telling(x, 0, 1, 3, 3, 1, 2);
        telling(x, 0, 3, 3, 3, 0, 2);
    }

    static void promise18_excise0To9() {
        RumourBrew x = in("o0,9,0;d0,0;d0,1;");
        x.brew(0, 20);
        telling(x, 0, 3, 3, 3, 0, 0);
        RumourBrew most = in(FIVE_WAYS);
        most.brew(0, 20);
        telling(most, 0, 63, 63, 63, 0, 54);
    }

    static void promise18_byStrongNotByMalt() {
        RumourBrew x = in("o1,1,1;d7,0;d0,1;");
        x.brew(1, 9);
        telling(x, 0, 1, 0, 1, 0, 1);
        x.days(1);
        telling(x, 0, 1, 1, 1, 0, 1);
        x.days(1);
        telling(x, 0, 1, 0, 1, 0, 1);
    }

    static void promise18_nothingChanges() {
        RumourBrew x = in(CHAIN);
        x.brew(0, 9);
        telling(x, 0, 2, 6, 31, 4, 15);
        telling(x, 0, 2, 6, 31, 4, 15);
        due("malt", x.cask(0, 1), 9);
        due("notes", x.count(5), 0);
        due("acts", x.count(6), 1);
    }

    // ---- 19: fewest

    private static void fewest(RumourBrew x, int to, int not, int many, int which) {
        due("fewest(0, " + to + ", " + not + ", 0)", x.fewest(0, to, not, 0), many);
        due("fewest(0, " + to + ", " + not + ", 1)", x.fewest(0, to, not, 1), which);
    }

    static void promise19_casksAndWhat() {
        RumourBrew x = in(TWO);
        due("-1", x.fewest(-1, 1, 0, 0), BAD);
        due("4", x.fewest(4, 1, 0, 0), BAD);
        due("the least", x.fewest(LEAST, 1, 0, 0), BAD);
        due("the most", x.fewest(MOST, 1, 0, 0), BAD);
        for (int cask = 0; cask < 4; cask++) {
            due("missing", x.fewest(cask, 1, 0, 0), STATE);
            x.brew(1, 9);
            due("there", x.fewest(cask, 1, 0, 0), 1);
        }
        due("what -1", x.fewest(0, 1, 0, -1), BAD);
        due("what 2", x.fewest(0, 1, 0, 2), BAD);
        due("what the least", x.fewest(0, 1, 0, LEAST), BAD);
        due("what the most", x.fewest(0, 1, 0, MOST), BAD);
    }

    static void promise19_toAndNotAreDrinkers() {
        RumourBrew x = in(TWO);
        x.brew(1, 9);
        due("to 4", x.fewest(0, 4, 0, 0), BAD);
        due("not 4", x.fewest(0, 0, 4, 0), BAD);
        due("to -1", x.fewest(0, -1, 0, 0), BAD);
        due("not -1", x.fewest(0, 0, -1, 0), BAD);
        due("to the least", x.fewest(0, LEAST, 0, 0), BAD);
        due("not the least", x.fewest(0, 0, LEAST, 0), BAD);
        due("to the most", x.fewest(0, MOST, 0, 0), BAD);
        due("not the most", x.fewest(0, 0, MOST, 0), BAD);
        fewest(x, 3, 0, 2, 3);
        fewest(x, 0, 3, 0, 0);
        RumourBrew six = in(APART);
        six.brew(0, 9);
        due("to 64", six.fewest(0, 64, 0, 0), BAD);
        due("not 64", six.fewest(0, 0, 64, 0), BAD);
        fewest(six, 63, 0, 6, 63);
        fewest(six, 0, 63, 0, 0);
        fewest(six, 21, 42, 3, 21);
    }

    static void promise19_oneToldAsBothIsBad() {
        RumourBrew x = in(TWO);
        due("missing, too", x.fewest(0, 1, 1, 0), BAD);
        x.brew(1, 9);
        due("1", x.fewest(0, 1, 1, 0), BAD);
        due("one of two", x.fewest(0, 3, 2, 0), BAD);
        due("one of two", x.fewest(0, 2, 3, 1), BAD);
        fewest(x, 2, 1, 1, 2);
    }

    static void promise19_badAheadOfState() {
        RumourBrew x = in(TWO);
        due("to", x.fewest(0, 4, 0, 0), BAD);
        due("not", x.fewest(0, 0, 4, 0), BAD);
        due("what", x.fewest(0, 0, 0, 2), BAD);
        due("missing", x.fewest(0, 0, 0, 1), STATE);
        RumourBrew none = new RumourBrew();
        due("no town, nobody", none.fewest(0, 0, 0, 0), STATE);
        due("no town, to", none.fewest(0, 1, 0, 0), BAD);
        due("no town, not", none.fewest(0, 0, 1, 0), BAD);
        due("no town, what", none.fewest(0, 0, 0, 2), BAD);
    }

    static void promise19_nobodyIsToBelieve() {
        RumourBrew x = in(CHAIN);
        x.brew(0, 20);
        fewest(x, 0, 0, 0, 0);
        fewest(x, 0, 31, 0, 0);
    }

    static void promise19_none() {
        RumourBrew x = in("o0,9,1;d0,0;d0,1;b0,0;d12,3;t0,1;t2,0;");
        x.brew(3, 9);
        fewest(x, 4, 0, NONE, NONE);
        fewest(x, 8, 0, NONE, NONE);
        fewest(x, 1, 2, NONE, NONE);
        fewest(x, 2, 1, 1, 2);
        fewest(x, 3, 0, 1, 1);
    }

    static void promise19_ofSeveralTheLeast() {
        RumourBrew x = in("o0,9,1;d0,0;d0,1;d0,2;t0,2;t1,2;");
        x.brew(2, 9);
        fewest(x, 4, 0, 1, 1);
        fewest(x, 4, 1, 1, 2);
        fewest(x, 4, 3, 1, 4);
        fewest(x, 7, 0, 2, 3);
        RumourBrew star = in("o0,9,1;d0,0;d0,1;d0,2;t2,0;t2,1;");
        star.brew(2, 9);
        fewest(star, 3, 0, 1, 4);
        fewest(star, 3, 4, 2, 3);
    }

    static void promise19_moreToldMayMakeFewerBelieve() {
        // 1 alone (4) believes nothing and stops it; by the gossip (5) it believes and passes on to 2
        RumourBrew x = in("o0,9,1;g0,0;d5,1;d0,2;d0,3;t0,1;t1,2;");
        x.brew(3, 4);
        fewest(x, 3, 0, 1, 1);
        fewest(x, 3, 4, 2, 3);
        fewest(x, 2, 5, NONE, NONE);
    }

    // ---- 20: silence

    private static void silence(RumourBrew x, int cask, int from, int other, int many, int which) {
        String call = "silence(" + cask + ", " + from + ", " + other + ", ";
        due(call + "0)", x.silence(cask, from, other, 0), many);
        due(call + "1)", x.silence(cask, from, other, 1), which);
    }

    static void promise20_casksAndWhat() {
        RumourBrew x = in("o0,9,1;d0,0;d0,1;t0,1;");
        due("-1", x.silence(-1, 0, 1, 0), BAD);
        due("4", x.silence(4, 0, 1, 0), BAD);
        due("the least", x.silence(LEAST, 0, 1, 0), BAD);
        due("the most", x.silence(MOST, 0, 1, 0), BAD);
        for (int cask = 0; cask < 4; cask++) {
            due("missing", x.silence(cask, 0, 1, 0), STATE);
            x.brew(0, 20);
            silence(x, cask, 0, 1, 1, 1);
        }
        due("what -1", x.silence(0, 0, 1, -1), BAD);
        due("what 2", x.silence(0, 0, 1, 2), BAD);
        due("what the least", x.silence(0, 0, 1, LEAST), BAD);
        due("what the most", x.silence(0, 0, 1, MOST), BAD);
    }

    static void promise20_drinkers() {
        RumourBrew x = in(TWO);
        x.brew(0, 9);
        for (int no : new int[] {-1, 2, LEAST, MOST}) {
            due("from " + no, x.silence(0, no, 1, 0), BAD);
            due("other " + no, x.silence(0, 0, no, 0), BAD);
        }
        silence(x, 0, 0, 1, 0, 0);
        silence(x, 0, 1, 0, 0, 0);
    }

    static void promise20_alikeIsBad() {
        RumourBrew x = in(TWO);
        due("missing, too", x.silence(0, 0, 0, 0), BAD);
        x.brew(0, 9);
        due("0", x.silence(0, 0, 0, 0), BAD);
        due("1", x.silence(0, 1, 1, 1), BAD);
    }

    static void promise20_badAheadOfState() {
        RumourBrew x = in(TWO);
        due("from", x.silence(0, 2, 1, 0), BAD);
        due("other", x.silence(0, 0, 2, 0), BAD);
        due("what", x.silence(0, 0, 1, 2), BAD);
        due("missing", x.silence(0, 0, 1, 1), STATE);
        due("no town", new RumourBrew().silence(0, 0, 1, 0), BAD);
    }

    static void promise20_noneByARat() {
        RumourBrew x = in("o0,9,1;r0,0;d0,1;d0,2;t0,1;t2,0;");
        x.brew(1, 2);
        silence(x, 0, 0, 1, NONE, NONE);
        silence(x, 0, 2, 1, 0, 0);
        x.brew(1, 3);
        silence(x, 1, 2, 1, 1, 2);
        x.brew(1, 1);
        silence(x, 2, 0, 1, 0, 0);
    }

    static void promise20_noTies() {
        RumourBrew x = in(APART);
        x.brew(0, 20);
        silence(x, 0, 0, 5, 0, 0);
    }

    static void promise20_tenTies() {
        RumourBrew x = in(FIVE_WAYS);
        x.brew(0, 20);
        silence(x, 0, 0, 5, 5, 31);
        silence(x, 0, 1, 5, 2, 544);
        silence(x, 0, 5, 0, 0, 0);
    }

    static void promise20_theTenthTieAlone() {
        RumourBrew x = in("o0,9,1;d0,0;d0,1;d0,2;d0,3;d0,4;d0,5;"
                + "t0,1;t0,2;t1,3;t2,3;t1,4;t2,4;t3,4;t3,0;t1,2;t4,5;");
        x.brew(0, 20);
        silence(x, 0, 0, 5, 1, 512);
        silence(x, 0, 0, 4, 2, 3);
    }

    static void promise20_ofSeveralTheLeast() {
        // ties 0 and 1 come ahead of tie 2, but are more
        RumourBrew x = in("o0,9,1;d0,0;d0,1;d0,2;d0,3;d0,4;t0,1;t0,2;t3,4;t1,3;t2,3;");
        x.brew(4, 9);
        silence(x, 0, 0, 4, 1, 4);
        silence(x, 0, 0, 3, 2, 3);
        RumourBrew line = in("o0,9,1;d0,0;d0,1;d0,2;t1,2;t0,1;");
        line.brew(0, 9);
        silence(line, 0, 0, 2, 1, 1);
    }

    static void promise20_tiesStay() {
        RumourBrew x = in(FIVE_WAYS);
        x.brew(0, 20);
        x.silence(0, 0, 5, 1);
        due("ties", x.count(2), 10);
        due("whom 0 tells", x.drinker(0, 2), 62);
        due("all believe", x.telling(0, 1, 0), 63);
        due("a tap by all ties", x.tap(0, 0), 63);
    }

    // ---- 21: malts

    private static RumourBrew boyWithRow(int lane, int items) {
        RumourBrew x = in(ONE_BOY);
        x.brew(0, 20);
        x.row(0, lane, items);
        return x;
    }

    static void promise21_casksRowsAndN() {
        RumourBrew x = boyWithRow(0, 40);
        for (int no : new int[] {-1, 4, LEAST, MOST}) {
            due("cask " + no, x.malts(no, 0, 0, 1), BAD);
        }
        for (int no : new int[] {-1, 8, LEAST, MOST}) {
            due("row " + no, x.malts(0, no, 0, 1), BAD);
        }
        for (int no : new int[] {-1, 0, 7, LEAST, MOST}) {
            due("n " + no, x.malts(0, 0, 0, no), BAD);
        }
        for (int n = 1; n <= 6; n++) {
            due("n " + n, x.malts(0, 0, 0, n), ALL_MALTS);
        }
        x.row(7, 0, 2);
        due("row 7", x.malts(0, 7, 0, 1), ALL_MALTS);
        x.brew(0, 1);
        x.brew(0, 1);
        x.brew(0, 1);
        due("cask 3", x.malts(3, 7, 0, 1), ALL_MALTS);
    }

    static void promise21_badAheadOfState() {
        RumourBrew x = in(ONE_BOY);
        due("row", x.malts(0, 8, 0, 1), BAD);
        due("n", x.malts(0, 0, 0, 7), BAD);
        due("n", x.malts(0, 0, 0, 0), BAD);
        due("missing", x.malts(0, 0, 0, 1), STATE);
    }

    static void promise21_stateAheadOfFindings() {
        RumourBrew x = in(ONE_BOY);
        due("row missing, too", x.malts(0, 0, -1, 1), STATE);
        x.row(0, 0, 1);
        due("place, too", x.malts(0, 0, -1, 1), STATE);
        due("status", x.status(), 0);
    }

    static void promise21_nullAheadOfPlace() {
        RumourBrew x = boyWithRow(0, 2);
        due("missing", x.malts(0, 1, 0, 1), NULL);
        due("missing, place", x.malts(0, 1, -1, 6), NULL);
        due("status", x.status(), 1);
    }

    static void promise21_places() {
        RumourBrew x = boyWithRow(1, 40);
        due("28 and 12", x.malts(0, 0, 28, 6), ALL_MALTS);
        due("29 and 12", x.malts(0, 0, 29, 6), PLACE);
        due("status", x.status(), 2);
        due("38 and 2", x.malts(0, 0, 38, 1), ALL_MALTS);
        due("39 and 2", x.malts(0, 0, 39, 1), PLACE);
        due("40 and 2", x.malts(0, 0, 40, 1), PLACE);
        due("-1", x.malts(0, 0, -1, 1), PLACE);
        due("the least", x.malts(0, 0, LEAST, 1), PLACE);
        due("the most", x.malts(0, 0, MOST, 1), PLACE);
        due("a sum that wraps around", x.malts(0, 0, MOST - 1, 6), PLACE);
        RumourBrew few = boyWithRow(1, 3);
        due("0 of 3", few.malts(0, 0, 0, 1), ALL_MALTS);
        due("1 of 3", few.malts(0, 0, 1, 1), ALL_MALTS);
        due("2 of 3", few.malts(0, 0, 2, 1), PLACE);
        due("two of 3 items", few.malts(0, 0, 0, 2), PLACE);
        due("an empty row", boyWithRow(2, 0).malts(0, 0, 0, 1), PLACE);
    }

    static void promise21_itemsThatAreNoDrinkers() {
        RumourBrew x = in(TWO);
        x.brew(1, 20);
        for (int no : new int[] {-1, 2, 127, -128}) {
            fill(x, 0, 0, no, 0, 0, 1, no, 1);
            due("the first is " + no, x.malts(0, 0, 0, 1), BAD);
            due("the first of two", x.malts(0, 0, 0, 2), BAD);
            due("none of them", x.malts(0, 0, 2, 1), ALL_MALTS);
            due("the last", x.malts(0, 0, 2, 2), BAD);
        }
        fill(x, 1, 2, 0, 1, LEAST, 1, 1, 2);
        due("an int", x.malts(0, 1, 0, 2), BAD);
        due("1 of 2", x.malts(0, 1, 4, 1), ALL_MALTS - 31);
    }

    static void promise21_placeAheadOfItems() {
        RumourBrew x = in(TWO);
        x.brew(1, 20);
        fill(x, 0, 0, 9, 0);
        due("place", x.malts(0, 0, 0, 2), PLACE);
        due("item", x.malts(0, 0, 0, 1), BAD);
        due("status stays", x.status(), 2);
    }

    static void promise21_bitsMayBeAny() {
        RumourBrew x = in(TWO);
        x.brew(1, 20);
        for (int bits : new int[] {0, 2, 3, 4, 5, 64, -1, 127, -128}) {
            fill(x, 0, 0, 0, bits);
            due("bits " + bits, x.malts(0, 0, 0, 1), 0);
        }
        fill(x, 0, 2, 0, 1, 0, LEAST + 1, 0, 257);
        due("bits 1", x.malts(0, 0, 0, 1), ALL_MALTS);
        due("bits beyond", x.malts(0, 0, 2, 1), 0);
        due("bits beyond", x.malts(0, 0, 4, 1), 0);
    }

    static void promise21_fromMalt0ToMalt20() {
        RumourBrew x = in("o0,9,1;d0,1;d12,1;");
        x.brew(1, 3);
        fill(x, 0, 0, 0, 1, 1, 2, 1, 0);
        due("all", x.malts(0, 0, 0, 1), ALL_MALTS);
        due("17 to 20", x.malts(0, 0, 2, 1), 15 << 17);
        due("0 to 16", x.malts(0, 0, 4, 1), (1 << 17) - 1);
        due("none", x.malts(0, 0, 2, 2), 0);
    }

    static void promise21_eachAsItIsNow() {
        // by age: young, OAK old, OFF; and no tap takes MALT away
        RumourBrew x = in("o1,1,1;d9,1;d0,0;");
        x.brew(1, 1);
        fill(x, 0, 0, 0, 1, 0, 1, 0, 1, 0, 1, 0, 1, 0, 1);
        // DOUBT 9, 3 more by dislike: 6 STRONG; 8 less a third is 6
        due("young", x.malts(0, 0, 0, 6), ALL_MALTS - 255);
        x.days(1);
        due("OAK old", x.malts(0, 0, 0, 6), ALL_MALTS - 63);
        x.days(1);
        due("OFF", x.malts(0, 0, 0, 6), 0);
        due("malt stays", x.cask(0, 1), 1);
        due("no notes", x.count(5), 0);
    }

    static void promise21_pairsOneAfterAnother() {
        RumourBrew x = in(TWO);
        x.brew(0, 20);
        fill(x, 0, 0, 0, 1, 1, 2);
        due("(0, 1), (1, 2)", x.malts(0, 0, 0, 2), ALL_MALTS - 31);
        fill(x, 0, 0, 0, 1, 1, 1);
        due("(0, 1), (1, 1)", x.malts(0, 0, 0, 2), 0);
    }

    // ---- 22: who

    static void promise22_drinkersCasksRowsAndN() {
        RumourBrew x = boyWithRow(0, 40);
        for (int no : new int[] {-1, 1, LEAST, MOST}) {
            due("drinker " + no, x.who(no, 0, 0, 0, 1), BAD);
        }
        for (int no : new int[] {-1, 4, LEAST, MOST}) {
            due("cask " + no, x.who(0, no, 0, 0, 1), BAD);
        }
        for (int no : new int[] {-1, 8, LEAST, MOST}) {
            due("row " + no, x.who(0, 0, no, 0, 1), BAD);
        }
        for (int no : new int[] {-1, 0, 7, LEAST, MOST}) {
            due("n " + no, x.who(0, 0, 0, 0, no), BAD);
        }
        for (int n = 1; n <= 6; n++) {
            due("n " + n, x.who(0, 0, 0, 0, n), 48);
        }
        x.row(7, 0, 2);
        due("row 7", x.who(0, 0, 7, 0, 1), 48);
    }

    static void promise22_badAheadOfState() {
        RumourBrew x = in(ONE_BOY);
        due("drinker", x.who(1, 0, 0, 0, 1), BAD);
        due("row", x.who(0, 0, 8, 0, 1), BAD);
        due("n", x.who(0, 0, 0, 0, 7), BAD);
        due("n", x.who(0, 0, 0, 0, 0), BAD);
        due("missing", x.who(0, 0, 0, 0, 1), STATE);
        due("no town", new RumourBrew().who(0, 0, 0, 0, 1), BAD);
    }

    static void promise22_stateAheadOfNullAheadOfPlace() {
        RumourBrew x = in(ONE_BOY);
        due("row missing, too", x.who(0, 0, 0, -1, 1), STATE);
        x.brew(0, 20);
        due("missing, place", x.who(0, 0, 0, -1, 1), NULL);
        due("status", x.status(), 1);
        x.row(0, 0, 2);
        due("place", x.who(0, 0, 0, -1, 1), PLACE);
        due("status", x.status(), 2);
    }

    static void promise22_places() {
        RumourBrew x = boyWithRow(1, 40);
        due("28 and 12", x.who(0, 0, 0, 28, 6), 48);
        due("29 and 12", x.who(0, 0, 0, 29, 6), PLACE);
        due("38 and 2", x.who(0, 0, 0, 38, 1), 48);
        due("39 and 2", x.who(0, 0, 0, 39, 1), PLACE);
        due("the least", x.who(0, 0, 0, LEAST, 1), PLACE);
        due("the most", x.who(0, 0, 0, MOST, 1), PLACE);
        due("an empty row", boyWithRow(2, 0).who(0, 0, 0, 0, 1), PLACE);
    }

    static void promise22_itemsBehindPlace() {
        RumourBrew x = in(TWO);
        x.brew(1, 20);
        fill(x, 0, 0, 0, 1, 2, 0, -1, 0);
        due("taken", x.who(0, 0, 0, 0, 1), 14);
        due("2 of 2", x.who(0, 0, 0, 0, 2), BAD);
        due("-1", x.who(0, 0, 0, 4, 1), BAD);
        due("place ahead of it", x.who(0, 0, 0, 2, 3), PLACE);
        due("bits may be any", x.who(0, 0, 0, 3, 1), 0);
    }

    static void promise22_noneAndAllKinds() {
        RumourBrew x = in(TWO);
        x.brew(1, 20);
        fill(x, 0, 0, 0, 1, 0, 0, 0, 3, 1, 2);
        due("who is not told: any", x.who(1, 0, 0, 0, 1), 62);
        // a rat tells 1 of itself 10: 1 believes it
        due("a boy alone", x.who(0, 0, 0, 2, 1), 16);
        due("no kind", x.who(0, 0, 0, 4, 1), 0);
        due("who is not told: any, but a rat tells 0", x.who(0, 0, 0, 6, 1), 62);
        due("one after another", x.who(0, 0, 0, 0, 2), 0);
        due("the kind stays", x.kind(0), 1);
    }

    static void promise22_eachKindByItself() {
        // 0 hears 12: a plain one gives 11, a gossip 13, a wife (half: 6) 11 or nothing, a boy 10, a rat 6 to all
        RumourBrew x = in("o0,9,1;d6,0;d11,1;b0,0;d6,3;t0,1;");
        x.brew(2, 12);
        fill(x, 0, 0, 0, 3, 0, 0, 0, 8, 0, 1, 0, 2);
        due("0 and 1", x.who(0, 0, 0, 0, 1), 14);
        due("nobody: a boy", x.who(0, 0, 0, 2, 1), 16);
        due("3: a rat", x.who(0, 0, 0, 4, 1), 32);
        due("0 alone: none", x.who(0, 0, 0, 6, 1), 0);
        due("1 alone: none", x.who(0, 0, 0, 8, 1), 0);
    }

    // ---- 23: goesOff

    static void promise23_casksAndWhat() {
        RumourBrew x = in(TWO);
        for (int no : new int[] {-1, 4, LEAST, MOST}) {
            due("cask " + no, x.goesOff(no, 0), BAD);
        }
        for (int no : new int[] {-1, 2, LEAST, MOST}) {
            due("what " + no + ", ahead of STATE", x.goesOff(0, no), BAD);
        }
        for (int cask = 0; cask < 4; cask++) {
            due("missing", x.goesOff(cask, 0), STATE);
            due("missing", x.goesOff(cask, 1), STATE);
            x.brew(0, 1);
            due("there", x.goesOff(cask, 0), 41);
            due("there", x.goesOff(cask, 1), 0);
        }
        for (int no : new int[] {-1, 2}) {
            due("what " + no, x.goesOff(0, no), BAD);
        }
    }

    static void promise23_offFirst() {
        RumourBrew x = in("o0,3,0;d0,0;");
        x.brew(0, 1);
        for (int in : new int[] {4, 3, 2, 1, 0, 0, 0}) {
            due("in " + in, x.goesOff(0, 0), in);
            due("it is", x.cask(0, 4), in == 0 ? 1 : 0);
            x.days(1);
        }
    }

    static void promise23_ready() {
        RumourBrew x = in("o3,1,0;d0,0;");
        x.brew(0, 1);
        for (int in : new int[] {3, 2, 1, 0, 0, 0}) {
            due("in " + in, x.goesOff(0, 1), in);
            x.days(1);
        }
    }

    static void promise23_mostAndLeast() {
        RumourBrew x = in("o20,40,0;d0,0;");
        x.brew(0, 1);
        due("41", x.goesOff(0, 0), 41);
        due("20", x.goesOff(0, 1), 20);
        RumourBrew least = in("o0,1,0;d0,0;");
        least.brew(0, 1);
        due("2", least.goesOff(0, 0), 2);
        due("0", least.goesOff(0, 1), 0);
        for (int k = 0; k < 41; k++) {
            x.days(24);
        }
        due("long since", x.goesOff(0, 0), 0);
        due("long since", x.goesOff(0, 1), 0);
    }

    // ---- 24: best

    static void promise24_casksAndWhat() {
        RumourBrew x = in(TWO);
        for (int no : new int[] {-1, 4, LEAST, MOST}) {
            due("cask " + no, x.best(no, 0), BAD);
        }
        for (int no : new int[] {-1, 2, LEAST, MOST}) {
            due("what " + no + ", ahead of STATE", x.best(0, no), BAD);
        }
        for (int cask = 0; cask < 4; cask++) {
            due("missing", x.best(cask, 0), STATE);
            x.brew(0, 0);
            due("there: not 0 itself", x.best(cask, 0), 1);
            due("there", x.best(cask, 1), 1);
        }
        due("no town", new RumourBrew().best(3, 1), STATE);
    }

    static void promise24_ofSeveralTheFirst() {
        RumourBrew x = in("o0,9,1;b0,0;d0,0;d0,0;d0,0;d0,0;d0,0;t1,2;t3,4;t4,5;t5,3;");
        x.brew(0, 9);
        due("3, 4, 5 by three each", x.best(0, 0), 3);
        due("how many", x.best(0, 1), 3);
    }

    static void promise24_nobodyAndEverybody() {
        RumourBrew none = in("o0,9,1;b0,0;r0,0;b0,0;");
        none.brew(0, 20);
        due("the first", none.best(0, 0), 0);
        due("nobody", none.best(0, 1), 0);
        RumourBrew all = in("o0,9,1;d0,0;d0,1;d0,2;d0,3;d0,4;d0,5;t5,4;t4,3;t3,2;t2,1;t1,0;");
        all.brew(0, 20);
        due("the last", all.best(0, 0), 5);
        due("everybody", all.best(0, 1), 6);
    }

    static void promise24_oneDrinker() {
        RumourBrew x = in("o0,9,1;d0,0;");
        x.brew(0, 20);
        due("it", x.best(0, 0), 0);
        due("itself", x.best(0, 1), 1);
    }

    // ---- 25: blended

    static void promise25_casksAndDrinkers() {
        RumourBrew x = in(TWO);
        x.brew(0, 9);
        x.brew(1, 9);
        for (int no : new int[] {-1, 4, LEAST, MOST}) {
            due("cask " + no, x.blended(no, 0, 0), BAD);
            due("into " + no, x.blended(0, no, 0), BAD);
        }
        for (int no : new int[] {-1, 2, LEAST, MOST}) {
            due("drinker " + no, x.blended(0, 1, no), BAD);
        }
        due("1 of 2", x.blended(0, 1, 1), 1);
        x.brew(0, 0);
        x.brew(0, 0);
        due("3 into 2, of 0 itself by 0", x.blended(3, 2, 0), 0);
        due("3 into 2", x.blended(3, 2, 1), 1);
    }

    static void promise25_alikeIsBad() {
        RumourBrew x = in(TWO);
        due("missing", x.blended(0, 0, 0), BAD);
        x.brew(0, 9);
        due("there", x.blended(0, 0, 0), BAD);
    }

    static void promise25_badAheadOfState() {
        RumourBrew x = in(TWO);
        due("drinker", x.blended(0, 1, 2), BAD);
        due("both missing", x.blended(0, 1, 1), STATE);
        x.brew(0, 9);
        due("the latter", x.blended(0, 1, 1), STATE);
        due("the former", x.blended(1, 0, 1), STATE);
        due("drinker", x.blended(1, 0, 2), BAD);
        due("no town", new RumourBrew().blended(0, 1, 0), BAD);
    }

    static void promise25_malt20AtMost() {
        // the gossip tells 3 of itself
        RumourBrew x = in("o0,9,1;d12,0;d12,1;g12,0;d12,3;t1,0;t2,3;");
        x.brew(0, 10);
        x.brew(3, 7);
        due("17: 3 hears 18 less 5", x.blended(0, 1, 2), 2);
        x.undo();
        x.brew(3, 5);
        due("15: 3 hears 16 less 5", x.blended(0, 1, 2), 1);
        RumourBrew most = in("o0,9,1;w6,1;d0,0;");
        most.brew(0, 20);
        most.brew(0, 20);
        due("40 would be enough, 20 is not", most.blended(0, 1, 0), 0);
    }

    static void promise25_whomAndAgeOfTheLatter() {
        RumourBrew x = in("o2,3,1;d6,1;d0,0;");
        x.brew(0, 1);
        x.days(2);
        x.brew(1, 5);
        // into the young one: 6 less 2, of 1 whom 0 DISLIKES: 7; into the old one: 6, of 0 itself: 1
        due("of the young one", x.blended(0, 1, 0), 1);
        due("of the old one", x.blended(1, 0, 0), 0);
        due("of the old one, at 1", x.blended(1, 0, 1), 1);
        x.days(2);
        due("OFF, at 0", x.blended(1, 0, 0), 0);
        due("not OFF, at 0", x.blended(0, 1, 0), 1);
    }

    static void promise25_nothingChanges() {
        RumourBrew x = in(TWO);
        x.brew(0, 9);
        x.brew(1, 9);
        x.blended(0, 1, 1);
        due("casks", x.count(3), 2);
        due("malt", x.cask(0, 1), 9);
        due("malt", x.cask(1, 1), 9);
        due("notes", x.count(5), 0);
        due("acts", x.count(6), 2);
    }

    // ---- 26: silent

    private static void silent(RumourBrew x, int from, int other, int p, long above, long below) {
        String call = "silent(0, " + from + ", " + other + ", " + p + ", ";
        due(call + "0)", x.silent(0, from, other, p, 0), above);
        due(call + "1)", x.silent(0, from, other, p, 1), below);
    }

    static void promise26_casksAndWhat() {
        RumourBrew x = in("o0,9,1;d0,0;d0,1;t0,1;");
        for (int no : new int[] {-1, 4, LEAST, MOST}) {
            due("cask " + no, x.silent(no, 0, 1, 5, 0), BAD);
        }
        for (int no : new int[] {-1, 2, LEAST, MOST}) {
            due("what " + no, x.silent(0, 0, 1, 5, no), BAD);
        }
        for (int cask = 0; cask < 4; cask++) {
            due("missing", x.silent(cask, 0, 1, 5, 0), STATE);
            due("missing", x.silent(cask, 0, 1, 5, 1), STATE);
            x.brew(0, 20);
            due("there", x.silent(cask, 0, 1, 5, 0), 1);
            due("there", x.silent(cask, 0, 1, 5, 1), 2);
        }
    }

    static void promise26_p0To10() {
        RumourBrew x = in("o0,9,1;d0,0;d0,1;t0,1;");
        x.brew(0, 20);
        for (int no : new int[] {-1, 11, LEAST, MOST}) {
            due("p " + no, x.silent(0, 0, 1, no, 0), BAD);
            due("p " + no, x.silent(0, 0, 1, no, 1), BAD);
        }
        long[][] by = {{1, 1}, {9, 10}, {4, 5}, {7, 10}, {3, 5}, {1, 2}, {2, 5}, {3, 10}, {1, 5}, {1, 10}, {0, 1}};
        for (int p = 0; p <= 10; p++) {
            silent(x, 0, 1, p, by[p][0], by[p][1]);
        }
    }

    static void promise26_drinkersAndAlike() {
        RumourBrew x = in(TWO);
        due("alike, missing", x.silent(0, 0, 0, 5, 0), BAD);
        x.brew(0, 20);
        for (int no : new int[] {-1, 2, LEAST, MOST}) {
            due("from " + no, x.silent(0, no, 1, 5, 0), BAD);
            due("other " + no, x.silent(0, 0, no, 5, 0), BAD);
        }
        due("alike", x.silent(0, 0, 0, 5, 0), BAD);
        due("alike", x.silent(0, 1, 1, 5, 1), BAD);
        silent(x, 1, 0, 5, 0, 1);
    }

    static void promise26_badAheadOfState() {
        RumourBrew x = in(TWO);
        due("from", x.silent(0, 2, 1, 5, 0), BAD);
        due("other", x.silent(0, 0, 2, 5, 0), BAD);
        due("p", x.silent(0, 0, 1, 11, 0), BAD);
        due("what", x.silent(0, 0, 1, 5, 2), BAD);
        due("missing", x.silent(0, 0, 1, 5, 1), STATE);
        due("no town", new RumourBrew().silent(0, 0, 1, 5, 0), BAD);
    }

    static void promise26_0Is0By1() {
        RumourBrew x = in("o0,9,1;d0,0;d12,1;b0,0;t0,1;t0,2;");
        x.brew(1, 9);
        for (int p = 0; p <= 10; p++) {
            silent(x, 0, 1, p, 0, 1);
            silent(x, 0, 2, p, 0, 1);
        }
    }

    static void promise26_1Is1By1() {
        RumourBrew x = in("o0,9,1;r0,0;d0,1;t0,1;t1,0;");
        x.brew(0, 9);
        for (int p = 0; p <= 10; p++) {
            silent(x, 0, 1, p, 1, 1);
        }
    }

    static void promise26_noTies() {
        RumourBrew x = in(APART);
        x.brew(0, 9);
        silent(x, 0, 1, 0, 0, 1);
        silent(x, 0, 1, 10, 0, 1);
    }

    static void promise26_tenTiesByLargeNumbers() {
        RumourBrew x = in("o0,40,9;d0,0;d0,1;d0,2;d0,3;d0,4;d0,5;"
                + "t0,5;t0,1;t0,2;t0,3;t0,4;t1,5;t2,5;t3,5;t4,5;t1,2;");
        x.brew(0, 20);
        // by q of 10 kept: 3 and 4 fail by 1 - qq each; 1 and 2 by pp(2q + 1) with their tie, as 3 and 4 without
        silent(x, 0, 5, 1, 9998959959L, 10000000000L);
        silent(x, 0, 5, 0, 1, 1);
        silent(x, 0, 5, 10, 0, 1);
        // by 5 of 10: 1 - 1/2 * 9/16 * (1/2 * 1/2 + 1/2 * 9/16) = 1 - 153/1024
        silent(x, 0, 5, 5, 871, 1024);
        // by 9 of 10: 1 - .9 * .9801 * (.1 * .81 * 1.2 + .9 * .9801) = 1 - .8638219161
        silent(x, 0, 5, 9, 1361780839L, 10000000000L);
    }

    static void promise26_aTieLessMayMakeOneBelieve() {
        // by the boy 4 comes first to 2 (DOUBT 5); without that tie and by the gossip, 5 does
        RumourBrew x = in("o0,9,1;b0,0;g0,1;d5,2;d0,3;t0,2;t0,1;t1,2;t2,3;");
        x.brew(3, 6);
        // 2 believes by ties 1 and 2; 3 hears of itself 4 less 5
        silent(x, 0, 2, 5, 1, 4);
        silent(x, 0, 3, 5, 0, 1);
        RumourBrew y = in("o0,9,1;b0,0;g0,1;d5,2;d0,3;d0,4;t0,2;t0,1;t1,2;t2,3;");
        y.brew(4, 6);
        silent(y, 0, 3, 5, 1, 16);
        silent(y, 0, 3, 0, 0, 1);
    }

    static void promise26_nothingChanges() {
        RumourBrew x = in(FIVE_WAYS);
        x.brew(0, 20);
        x.silent(0, 0, 5, 5, 0);
        due("all believe", x.telling(0, 1, 0), 63);
        due("best", x.best(0, 1), 6);
        due("blend", x.brew(0, 1), 1);
        due("blended", x.blended(1, 0, 0), 6);
    }

    // ---- 27: drawn

    static void promise27_n0To60() {
        RumourBrew x = in(TWO);
        for (int no : new int[] {-1, 61, LEAST, MOST}) {
            due("n " + no, x.drawn(no, 1, 0), BAD);
        }
        due("0", x.drawn(0, 1, 0), 0);
        due("60", x.drawn(60, 1, 0), 0);
    }

    static void promise27_seed1To999999() {
        RumourBrew x = in(TWO);
        for (int no : new int[] {-1, 0, 1000000, LEAST, MOST}) {
            due("seed " + no, x.drawn(1, no, 0), BAD);
        }
        due("1", x.drawn(1, 1, 0), 0);
        due("999999", x.drawn(1, 999999, 0), 0);
    }

    static void promise27_what() {
        RumourBrew x = in(TWO);
        for (int no : new int[] {-1, 2, LEAST, MOST}) {
            due("what " + no, x.drawn(1, 1, no), BAD);
        }
        due("0", x.drawn(1, 1, 0), 0);
        due("1", x.drawn(1, 1, 1), 0);
    }

    static void promise27_noTownAheadOfBad() {
        RumourBrew x = new RumourBrew();
        due("n", x.drawn(-1, 1, 0), STATE);
        due("n", x.drawn(61, 1, 0), STATE);
        due("seed", x.drawn(1, 0, 0), STATE);
        due("what", x.drawn(1, 1, 2), STATE);
        due("none", x.drawn(1, 1, 1), STATE);
    }

    static void promise27_noDaysIsAsItIs() {
        RumourBrew x = in(TWO);
        x.brew(1, 9);
        x.brew(1, 11);
        x.tap(0, 0);
        due("notes", x.drawn(0, 999999, 0), 1);
        due("malt", x.drawn(0, 999999, 1), 19);
    }

    static void promise27_theLargestSeed() {
        // 999999 times 16807 is more than an int: X is 1774597664, then 1410049312, 1216742139: casks 0, 0, 3
        RumourBrew x = in(TWO);
        x.brew(1, 4);
        due("at 0, of 1", x.drawn(1, 999999, 0), 1);
        due("malt", x.drawn(1, 999999, 1), 3);
        due("malt", x.drawn(2, 999999, 1), 2);
        due("cask 3 is missing", x.drawn(3, 999999, 1), 2);
        for (int k = 0; k < 3; k++) {
            x.brew(1, 4);
        }
        due("cask 3 at 1 itself", x.drawn(3, 999999, 0), 1);
        due("malt", x.drawn(3, 999999, 1), 13);
    }

    static void promise27_tenDays() {
        // casks 3 1 1 2 2 0 0 2 3 1 at drinkers 1 1 5 2 4 2 0 2 5 1: two of these twice
        RumourBrew x = in(APART);
        for (int cask = 0; cask < 4; cask++) {
            x.brew(cask, 20);
        }
        due("notes", x.drawn(10, 1, 0), 8);
        due("malt", x.drawn(10, 1, 1), 70);
        due("notes of 9", x.drawn(9, 1, 0), 8);
        due("malt of 9", x.drawn(9, 1, 1), 71);
        due("notes of 1", x.drawn(1, 1, 0), 1);
    }

    static void promise27_sixtyDays() {
        // casks are tapped 17, 19, 10 and 14 times
        RumourBrew x = in(APART);
        for (int cask = 0; cask < 4; cask++) {
            x.brew(cask, 18);
        }
        due("1, 0 at least, 8 and 4", x.drawn(60, 1, 1), 13);
        x.drawn(60, 1, 0);
        due("nothing changes", x.count(5), 0);
        due("nothing changes", x.count(4), 0);
        due("nothing changes", x.cask(0, 1), 18);
        due("nothing changes", x.cask(0, 2), 0);
        due("nothing changes", x.count(6), 4);
    }

    /** Cask 3 alone, of 0: seed 999999 taps it at 1 on the third day, when it is 2 DAYS old; before, a missing one. */
    private static int notesByTheThirdDay(String text) {
        RumourBrew x = in(text);
        for (int cask = 0; cask < 4; cask++) {
            x.brew(0, cask == 3 ? 9 : 0);
        }
        for (int cask = 0; cask < 3; cask++) {
            x.blend(cask, 3);
        }
        due("two days", x.drawn(2, 999999, 0), 0);
        due("malt", x.drawn(3, 999999, 1), 8);
        return x.drawn(3, 999999, 0);
    }

    static void promise27_agesPassWithTheDays() {
        due("KEEPS 1: OFF", notesByTheThirdDay("o0,1,1;d0,0;d1,1;"), 0);
        due("KEEPS 2: not OFF", notesByTheThirdDay("o0,2,1;d0,0;d1,1;"), 1);
        due("OAK 3: young", notesByTheThirdDay("o3,9,1;d0,0;d9,1;"), 0);
        due("OAK 2: OAK old", notesByTheThirdDay("o2,9,1;d0,0;d9,1;"), 1);
    }

    static void promise27_missingCasksAreNotTapped() {
        // X is 16807, 282475249, 1622650073, 984943658: casks 3, 1, 1, 2
        RumourBrew x = in(APART);
        x.brew(0, 20);
        due("notes", x.drawn(4, 1, 0), 0);
        due("malt", x.drawn(4, 1, 1), 20);
        x.brew(0, 20);
        due("notes, at 1 and at 5", x.drawn(4, 1, 0), 2);
        due("malt", x.drawn(4, 1, 1), 38);
        x.blend(1, 0);
        due("missing again", x.drawn(4, 1, 1), 20);
        due("no notes", x.drawn(4, 1, 0), 0);
    }

    static void promise27_oneDrinker() {
        RumourBrew x = in("o0,40,1;d0,0;");
        for (int cask = 0; cask < 4; cask++) {
            x.brew(0, 20);
        }
        due("notes", x.drawn(1, 1, 0), 1);
        due("malt", x.drawn(1, 1, 1), 79);
        due("malt", x.drawn(5, 1, 1), 75);
    }

    static void promise27_offIsTappedToo() {
        // seed 999999: cask 0 at 0, of itself 9 less 5
        RumourBrew x = in("o0,1,1;d1,0;d1,1;");
        x.brew(0, 9);
        x.days(1);
        due("not OFF yet", x.drawn(1, 999999, 0), 1);
        x.days(1);
        due("OFF", x.drawn(1, 999999, 0), 0);
        due("malt", x.drawn(1, 999999, 1), 8);
    }

    static void promise27_beyondTheLastDay() {
        RumourBrew x = in(TWO);
        for (int k = 0; k < 41; k++) {
            x.days(24);
        }
        x.days(15);
        x.brew(1, 20);
        due("day", x.count(4), 999);
        due("malt", x.drawn(60, 1, 1), 3);
        due("day", x.count(4), 999);
    }

    // ---- 28: image

    static void promise28_images0And1() {
        RumourBrew x = in(TWO);
        for (int no : new int[] {-1, 2, LEAST, MOST}) {
            due("image " + no, x.image(no), BAD);
        }
        due("0", x.image(0), 1);
        due("1", x.image(1), 1);
    }

    static void promise28_badAheadOfState() {
        RumourBrew x = new RumourBrew();
        due("-1", x.image(-1), BAD);
        due("2", x.image(2), BAD);
        due("no town", x.image(1), STATE);
        due("none is kept", x.restore(1), STATE);
    }

    static void promise28_imagesAreApart() {
        RumourBrew x = in(TWO);
        x.brew(0, 5);
        x.image(0);
        x.water(0);
        x.image(1);
        x.water(0);
        x.restore(0);
        due("of 0", x.cask(0, 1), 5);
        x.restore(1);
        due("of 1", x.cask(0, 1), 2);
        x.restore(0);
        due("of 0 again", x.cask(0, 1), 5);
    }

    static void promise28_inPlaceOfTheOneBefore() {
        RumourBrew x = in(TWO);
        x.brew(0, 5);
        x.image(0);
        x.water(0);
        x.image(0);
        x.water(0);
        x.restore(0);
        due("the later one", x.cask(0, 1), 2);
    }

    static void promise28_nothingChanges() {
        RumourBrew x = in(CHAIN);
        x.brew(0, 9);
        x.tap(0, 1);
        x.image(0);
        due("acts", x.count(6), 2);
        due("undo", x.undo(), 1);
        due("malt", x.cask(0, 1), 9);
    }

    // ---- 29: restore

    static void promise29_images0And1() {
        RumourBrew x = in(TWO);
        x.image(0);
        x.image(1);
        for (int no : new int[] {-1, 2, LEAST, MOST}) {
            due("image " + no, x.restore(no), BAD);
        }
        due("0", x.restore(0), 1);
        due("1", x.restore(1), 1);
    }

    static void promise29_noneKeptIsState() {
        RumourBrew x = in(TWO);
        x.brew(0, 9);
        due("0", x.restore(0), STATE);
        x.image(1);
        due("0 yet", x.restore(0), STATE);
        due("the acts stay", x.count(6), 1);
        due("1", x.restore(1), 1);
        RumourBrew none = new RumourBrew();
        due("no town", none.restore(0), STATE);
        due("BAD ahead of it", none.restore(2), BAD);
    }

    static void promise29_allOfTheTown() {
        RumourBrew x = in(FIVE_WAYS);
        x.brew(3, 17);
        x.days(2);
        x.brew(5, 11);
        x.tap(0, 1);
        x.days(1);
        x.image(1);
        fed(x, "o7,7,7;w5,1;").town();
        x.brew(0, 1);
        x.days(9);
        due("restore", x.restore(1), 1);
        int[] counts = {0, 6, 10, 2, 3, 6, 0, 0};
        for (int what = 0; what < 8; what++) {
            due("count(" + what + ")", x.count(what), counts[what]);
        }
        int[][] casks = {{3, 16, 3, 16, 0}, {5, 11, 1, 11, 0}};
        for (int cask = 0; cask < 2; cask++) {
            for (int what = 0; what < 5; what++) {
                due("cask(" + cask + ", " + what + ")", x.cask(cask, what), casks[cask][what]);
            }
        }
        due("notes", x.rumour(3), 63);
        due("kind", x.kind(0), 1);
        due("DOUBT", x.drinker(0, 0), 0);
        due("DISLIKES", x.drinker(5, 1), 5);
        due("ties", x.drinker(0, 2), 62);
        due("KEEPS", x.goesOff(0, 0), 38);
        due("OAK", x.goesOff(1, 1), 0);
        due("EXCISE", x.telling(0, 1, 3), 54);
    }

    static void promise29_whatIsNotOfTheTownStays() {
        RumourBrew x = in(CHAIN);
        x.image(0);
        fill(x, 2, 0, 1, 2);
        x.set(2, 2, 0);
        x.ask(1, 1);
        x.town();
        fed(x, "o1,");
        x.restore(0);
        due("rows", x.count(0), 1);
        due("size", x.set(2, 1, 7), 7);
        due("tape", x.count(7), 3);
        due("trace", x.trace(0), 24);
        due("fault", x.fault(), 1);
        x.set(2, 2, 0);
        x.restore(0);
        due("status", x.status(), 2);
    }

    static void promise29_theImageStays() {
        RumourBrew x = in(TWO);
        x.brew(0, 9);
        x.image(0);
        x.restore(0);
        x.water(0);
        x.days(3);
        x.tap(0, 1);
        x.restore(0);
        due("malt", x.cask(0, 1), 9);
        due("age", x.cask(0, 2), 0);
        due("notes", x.count(5), 0);
        due("day", x.count(4), 0);
    }

    static void promise29_noActCanBeUndone() {
        RumourBrew x = in(TWO);
        x.brew(0, 9);
        x.image(0);
        x.water(0);
        x.restore(0);
        due("none", x.undo(), STATE);
        x.water(0);
        due("one", x.undo(), 0);
        due("malt", x.cask(0, 1), 9);
        due("none", x.undo(), STATE);
    }
}
