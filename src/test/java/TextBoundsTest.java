/** Promises 6 to 8: the bounds of the tape, of texts and their NUMBERS, and the FAULTS, each at its place. */
public final class TextBoundsTest extends Cases {
    private static final String LAW = "o0,1,0;";
    private static final String SIX = LAW + "d0,0;g0,0;w0,0;b0,0;r0,0;d0,0;";
    private static final String TEN = SIX + "t0,1;t0,2;t0,3;t0,4;t0,5;t1,0;t1,2;t1,3;t1,4;t1,5;";
    /** 10 bytes of law, 42 of drinkers, 8 ties of 7 bytes and 2 of 6: 120. */
    private static final String LONGEST = "o20,40,09;d12,05;d12,05;d12,05;d12,05;d12,05;d12,05;"
            + "t00,01;t00,02;t00,03;t00,04;t00,05;t01,00;t01,02;t01,03;t01,4;t01,5;";

    public static void main(String[] args) throws Exception {
        run(TextBoundsTest.class, 6, 8);
    }

    private static void taken(String text, int drinkers) {
        RumourBrew x = fed(in(TWO), text);
        due("town of " + text, x.town(), drinkers);
        due("drinkers of " + text, x.count(1), drinkers);
        due("fault of " + text, x.fault(), 0);
    }

    private static void faulty(String text, int place, int number) {
        RumourBrew x = fed(in(TWO), text);
        due("town of " + text, x.town(), -1000100 - place);
        due("fault of " + text, x.fault(), number);
        due("drinkers stay, " + text, x.count(1), 2);
    }

    // ---- 6: feed

    static void promise06_bytes0To255() {
        RumourBrew x = new RumourBrew();
        due("-1", x.feed(-1), BAD);
        due("256", x.feed(256), BAD);
        due("the least", x.feed(LEAST), BAD);
        due("the most", x.feed(MOST), BAD);
        due("the tape is empty", x.count(7), 0);
        due("0", x.feed(0), 1);
        due("255", x.feed(255), 2);
    }

    static void promise06_120Bytes() {
        RumourBrew x = new RumourBrew();
        for (int n = 1; n <= 120; n++) {
            due("byte " + n, x.feed(n), n);
        }
        due("byte 121", x.feed(0), FULL);
        due("byte 121 again", x.feed(255), FULL);
        due("120 stay", x.count(7), 120);
    }

    static void promise06_badAheadOfFull() {
        RumourBrew x = fed(new RumourBrew(), LONGEST);
        due("-1", x.feed(-1), BAD);
        due("256", x.feed(256), BAD);
        due("0", x.feed(0), FULL);
    }

    static void promise06_refusedLeavesTheTape() {
        RumourBrew x = new RumourBrew();
        due("the text is as long as the tape", LONGEST.length(), 120);
        for (int i = 0; i < 120; i++) {
            x.feed(-1);
            x.feed(LONGEST.charAt(i));
            x.feed(256);
        }
        due("full", x.feed('z'), FULL);
        due("it is read", x.town(), 6);
        due("ten ties", x.count(2), 10);
    }

    static void promise06_tapeIsEmptyBehindATown() {
        RumourBrew x = fed(new RumourBrew(), LONGEST);
        x.town();
        due("empty", x.count(7), 0);
        due("the first byte", x.feed('o'), 1);
    }

    static void promise06_tapeIsEmptyBehindAFault() {
        RumourBrew x = new RumourBrew();
        for (int n = 0; n < 121; n++) {
            x.feed('o');
        }
        due("a fault", x.town(), -1000101);
        due("empty", x.count(7), 0);
        due("the first byte", x.feed('o'), 1);
        due("what was there is gone", x.town(), -1000101);
    }

    // ---- 7: town, what is taken

    static void promise07_oak0To20() {
        taken("o0,1,0;d0,0;", 1);
        taken("o20,1,0;d0,0;", 1);
        faulty("o21,1,0;d0,0;", 1, 2);
        faulty("o99,1,0;d0,0;", 1, 2);
    }

    static void promise07_keeps1To40() {
        faulty("o0,0,0;d0,0;", 3, 2);
        faulty("o0,00,0;d0,0;", 3, 2);
        taken("o0,1,0;d0,0;", 1);
        taken("o0,40,0;d0,0;", 1);
        faulty("o0,41,0;d0,0;", 3, 2);
    }

    static void promise07_excise0To9() {
        taken("o0,1,0;d0,0;", 1);
        taken("o0,1,9;d0,0;", 1);
        faulty("o0,1,10;d0,0;", 5, 2);
    }

    static void promise07_doubt0To12() {
        taken(LAW + "d0,0;", 1);
        taken(LAW + "d12,0;", 1);
        faulty(LAW + "d13,0;", 8, 2);
        faulty(LAW + "d0,0;g13,0;", 13, 2);
    }

    static void promise07_dislikes0To5() {
        taken(LAW + "d0,0;", 1);
        taken(LAW + "d0,5;", 1);
        faulty(LAW + "d0,6;", 10, 2);
        faulty(LAW + "d0,5;r0,06;", 15, 2);
    }

    static void promise07_numbersAreAsTold() {
        RumourBrew x = in("o20,40,9;d12,5;b0,0;t1,0;");
        x.brew(1, 20);
        due("OAK", x.goesOff(0, 1), 20);
        due("KEEPS", x.goesOff(0, 0), 41);
        due("EXCISE", x.telling(0, 1, 3), 9);
        due("DOUBT", x.drinker(0, 0), 12);
        due("DISLIKES", x.drinker(0, 1), 5);
        due("tells", x.drinker(1, 2), 1);
        RumourBrew least = in("o0,1,0;d0,0;");
        least.brew(0, 20);
        due("OAK", least.goesOff(0, 1), 0);
        due("KEEPS", least.goesOff(0, 0), 2);
        due("EXCISE", least.telling(0, 1, 3), 0);
    }

    static void promise07_twoFiguresAtMost() {
        taken("o00,01,00;d00,00;", 1);
        taken("o09,09,09;d09,05;", 1);
        faulty("o000,1,0;d0,0;", 1, 1);
        faulty("o0,001,0;d0,0;", 3, 1);
        faulty("o0,1,000;d0,0;", 5, 1);
        faulty(LAW + "d000,0;", 8, 1);
        faulty(LAW + "d0,000;", 10, 1);
        faulty(LAW + "d0,0;d0,0;t000,1;", 18, 1);
        faulty(LAW + "d0,0;d0,0;t0,001;", 20, 1);
    }

    static void promise07_eachSort() {
        String sorts = "dgwbr";
        for (int kind = 1; kind <= 5; kind++) {
            RumourBrew x = in(LAW + sorts.charAt(kind - 1) + "0,0;");
            due("kind", x.kind(0), kind);
        }
    }

    static void promise07_oneToSixDrinkers() {
        faulty(LAW, 7, 1);
        for (int n = 1; n <= 6; n++) {
            taken(SIX.substring(0, 7 + 5 * n), n);
        }
        faulty(SIX + "d0,0;", 37, 3);
    }

    static void promise07_noneToTenTies() {
        for (int n = 0; n <= 10; n++) {
            RumourBrew x = in(TEN.substring(0, 37 + 5 * n));
            due("ties", x.count(2), n);
        }
        faulty(TEN + "t2,0;", 87, 3);
    }

    static void promise07_tieOfDrinkersTold() {
        taken(LAW + "d0,0;d0,0;t0,1;", 2);
        taken(LAW + "d0,0;d0,0;t1,0;", 2);
        faulty(LAW + "d0,0;d0,0;t2,0;", 18, 2);
        faulty(LAW + "d0,0;d0,0;t0,2;", 20, 2);
        faulty(LAW + "d0,0;d0,0;t2,3;", 18, 2);
        faulty(LAW + "d0,0;d0,0;t99,0;", 18, 2);
        faulty(SIX + "t6,0;", 38, 2);
        taken(SIX + "t5,0;", 6);
    }

    static void promise07_tieOfUnlikeOnes() {
        faulty(LAW + "d0,0;t0,0;", 15, 2);
        faulty(LAW + "d0,0;d0,0;t1,1;", 20, 2);
        faulty(LAW + "d0,0;d0,0;t1,01;", 20, 2);
    }

    static void promise07_noTwoTiesAlike() {
        faulty(LAW + "d0,0;d0,0;t0,1;t0,1;", 25, 2);
        faulty(LAW + "d0,0;d0,0;t0,1;t00,01;", 26, 2);
        faulty(LAW + "d0,0;d0,0;t0,1;t1,0;t0,1;", 30, 2);
        taken(LAW + "d0,0;d0,0;t0,1;t1,0;", 2);
        taken(LAW + "d0,0;d0,0;d0,0;t0,1;t0,2;t2,1;", 3);
    }

    static void promise07_dislikesOneNotToldOrItself() {
        RumourBrew x = in(LAW + "d0,5;d0,1;");
        due("one not told", x.drinker(0, 1), 5);
        due("itself", x.drinker(1, 1), 1);
    }

    static void promise07_townInPlaceOfTheOneBefore() {
        RumourBrew x = in(CHAIN);
        x.brew(4, 20);
        x.brew(0, 20);
        x.tap(0, 0);
        x.days(3);
        fed(x, "o1,1,1;d0,0;g9,0;");
        due("town", x.town(), 2);
        int[] counts = {0, 2, 0, 0, 0, 0, 0, 0};
        for (int what = 0; what < 8; what++) {
            due("count(" + what + ")", x.count(what), counts[what]);
        }
        due("no act", x.undo(), STATE);
        due("nobody believes", x.rumour(0), 0);
        due("a drinker less", x.kind(2), BAD);
        due("kind", x.kind(1), 2);
        due("DOUBT", x.drinker(1, 0), 9);
        due("no ties", x.drinker(0, 2), 0);
        due("no cask", x.cask(0, 0), NONE);
        due("the first cask", x.brew(1, 2), 0);
        due("as old", x.cask(0, 2), 0);
    }

    static void promise07_whatIsNotOfATownStays() {
        RumourBrew x = in(CHAIN);
        x.brew(0, 7);
        x.image(0);
        x.row(3, 1, 4);
        x.ask(1, 0);
        x.set(3, 4, 0);
        fed(x, TWO).town();
        due("rows", x.count(0), 1);
        due("trace", x.trace(0), 12);
        due("status", x.status(), 2);
        due("an image", x.restore(0), 1);
        due("its cask", x.cask(0, 1), 7);
    }

    // ---- 7: town, faults

    static void promise07_theEndIsAsManyBytes() {
        String text = LAW + "d0,0;d0,0;t0,1;";
        for (int n = 0; n <= text.length(); n++) {
            if (n == 12 || n == 17 || n == 22) {
                taken(text.substring(0, n), n == 12 ? 1 : 2);
            } else {
                faulty(text.substring(0, n), n, 1);
            }
        }
    }

    static void promise07_theEndOfAFullTape() {
        String full = LONGEST.replace("t01,4;t01,5;", "t01,04;t01,5");
        due("as long as the tape", full.length(), 120);
        faulty(full, 120, 1);
    }

    static void promise07_theFirstTokenCounts() {
        faulty("o21,41,10;d13,6;", 1, 2);
        faulty("o20,41,10;d13,6;", 4, 2);
        faulty("o20,40,10;d13,6;", 7, 2);
        faulty("o20,40,9;d13,6;", 10, 2);
        faulty("o20,40,9;d12,6;", 13, 2);
        faulty("o20,40,9;d12,6;z", 13, 2);
        faulty("o21z", 1, 2);
        faulty("z21", 0, 1);
        faulty("o1,1,1z000", 6, 1);
        faulty(SIX + "d13,6;", 37, 3);
        faulty(TEN + "t0,1;", 87, 3);
        faulty(TEN + "t9,z", 87, 3);
    }

    static void promise07_ofOneTokenTheLeast() {
        faulty("o999,1,0;d0,0;", 1, 1);
        faulty(LAW + "d130,0;", 8, 1);
        faulty(LAW + "d0,0;t100,0;", 13, 1);
        faulty(SIX + "t0,1;d0,0;", 42, 1);
        faulty(TEN + "d0,0;", 87, 1);
        faulty(SIX + "o", 37, 1);
        faulty(TEN + "13", 87, 1);
    }

    static void promise07_noRoomAtItsLetter() {
        for (char sort : "dgwbr".toCharArray()) {
            faulty(SIX + sort, 37, 3);
        }
        faulty(TEN + "t", 87, 3);
        faulty(SIX + "x", 37, 1);
        faulty(TEN + "x", 87, 1);
    }

    static void promise07_runsOfFiguresAtTheirFirst() {
        faulty("o1234,1,0;d0,0;", 1, 1);
        faulty("o12345678901234567890,1,0;d0,0;", 1, 1);
        faulty("123", 0, 1);
        faulty("o1,1,1123", 5, 1);
        faulty("o1,1,1;123", 7, 1);
        faulty("o1,123", 3, 1);
    }

    static void promise07_nothingElseIsAToken() {
        faulty(" o0,1,0;d0,0;", 0, 1);
        faulty("o0, 1,0;d0,0;", 3, 1);
        faulty("o0,1,0;d0,0; ", 12, 1);
        faulty("o0,1,0;d0,0;\n", 12, 1);
        faulty("o0,1,0;d0,0;" + (char) 0, 12, 1);
        faulty("O0,1,0;d0,0;", 0, 1);
        faulty("o0,1,0;D0,0;", 7, 1);
        faulty("o+1,1,0;d0,0;", 1, 1);
        faulty("o0:1,0;d0,0;", 2, 1);
        faulty("o0/1,0;d0,0;", 2, 1);
        faulty("o:,1,0;d0,0;", 1, 1);
        faulty("o/,1,0;d0,0;", 1, 1);
    }

    static void promise07_eachPartInItsOrder() {
        faulty("d0,0;o0,1,0;", 0, 1);
        faulty(LAW + LAW + "d0,0;", 7, 1);
        faulty(LAW + "t0,1;d0,0;d0,0;", 7, 1);
        faulty(LAW + "d0,0;" + LAW, 12, 1);
        faulty(LAW + "d0,0;d0,0;t0,1;d0,0;", 22, 1);
        faulty(LAW + "d0,0,0;", 11, 1);
        faulty(LAW + "d0,0;d0,0;t0,1,0;", 21, 1);
        faulty("o0,1;d0,0;", 4, 1);
        faulty("o0,1,0,0;d0,0;", 6, 1);
        faulty(LAW + "d0;", 9, 1);
        faulty(LAW + "d0,0;;", 12, 1);
    }

    /**
     * Each byte behind each kind of beginning: letters that can stand there, noRoom what is one too many; a NUMBER
     * from start on (below 0: none) may go from least to most; taken: so many drinkers, if a letter ends the text.
     */
    private static void eachByte(String ahead, String letters, String noRoom, int start, int least, int most,
            int taken) {
        int here = ahead.length();
        for (int b = 0; b < 256; b++) {
            String text = ahead + (char) b;
            if (letters.indexOf(b) >= 0 && taken > 0) {
                taken(text, taken);
            } else if (letters.indexOf(b) >= 0) {
                faulty(text, here + 1, 1);
            } else if (noRoom.indexOf(b) >= 0) {
                faulty(text, here, 3);
            } else if (b < '0' || b > '9' || start < 0) {
                faulty(text, here, 1);
            } else if (here - start >= 2) {
                faulty(text, start, 1);
            } else {
                int number = Integer.parseInt(text.substring(start));
                boolean isTold = number >= least && number <= most;
                faulty(text, isTold ? here + 1 : start, isTold ? 1 : 2);
            }
        }
    }

    private static void eachByteOfANumber(String ahead, int least, int most, String sign, int taken) {
        int start = ahead.length();
        eachByte(ahead, "", "", start, least, most, 0);
        for (int number = least; number <= most; number++) {
            eachByte(ahead + (number < 10 ? "0" : "") + number, sign, "", start, least, most, taken);
            if (number < 10) {
                eachByte(ahead + number, sign, "", start, least, most, taken);
            }
        }
    }

    static void promise07_eachByteInALaw() {
        eachByte("", "o", "", -1, 0, 0, 0);
        eachByteOfANumber("o", 0, 20, ",", 0);
        eachByteOfANumber("o20,", 1, 40, ",", 0);
        eachByteOfANumber("o20,40,", 0, 9, ";", 0);
        eachByte("o20,40,9;", "dgwbr", "", -1, 0, 0, 0);
    }

    static void promise07_eachByteInADrinker() {
        for (char sort : "dgwbr".toCharArray()) {
            eachByteOfANumber(LAW + sort, 0, 12, ",", 0);
            eachByteOfANumber(LAW + sort + "12,", 0, 5, ";", 1);
            eachByte(LAW + sort + "12,5;", "dgwbrt", "", -1, 0, 0, 0);
        }
        eachByteOfANumber(LAW + "d1,1;d1,", 0, 5, ";", 2);
        eachByte(SIX, "t", "dgwbr", -1, 0, 0, 0);
    }

    static void promise07_eachByteInATie() {
        String two = LAW + "d0,0;d0,0;";
        eachByteOfANumber(two + "t", 0, 1, ",", 0);
        eachByteOfANumber(two + "t0,", 1, 1, ";", 2);
        eachByteOfANumber(two + "t1,", 0, 0, ";", 2);
        eachByte(two + "t0,1;", "t", "", -1, 0, 0, 0);
        eachByteOfANumber(two + "t0,1;t0,", 1, 0, ";", 2);
        eachByteOfANumber(two + "t0,1;t1,", 0, 0, ";", 2);
        eachByte(two + "t0,1;t1,0;", "t", "", -1, 0, 0, 0);
        eachByteOfANumber(SIX + "t", 0, 5, ",", 0);
        eachByteOfANumber(SIX + "t5,", 0, 4, ";", 6);
        eachByte(SIX + "t0,5;", "t", "", -1, 0, 0, 0);
        eachByte(TEN, "", "t", -1, 0, 0, 0);
    }

    static void promise07_faultLeavesAllButTheTape() {
        String[] faults = {"", "o1,1,1;d0,0;d1,1;t0,1;t0,1;", SIX + "d", "o20,40,9;d12,5;x"};
        for (String text : faults) {
            RumourBrew x = in(CHAIN);
            x.brew(0, 9);
            x.days(2);
            x.tap(0, 1);
            due("a fault", fed(x, text).town() <= -1000100 ? 1 : 0, 1);
            int[] counts = {0, 5, 4, 1, 2, 2, 4, 0};
            for (int what = 0; what < 8; what++) {
                due("count(" + what + ")", x.count(what), counts[what]);
            }
            due("who believes", x.rumour(0), 6);
            due("malt", x.cask(0, 1), 8);
            due("OAK", x.goesOff(0, 1), 0);
            due("KEEPS", x.goesOff(0, 0), 4);
            due("EXCISE", x.telling(0, 1, 3), 3);
            due("kind", x.kind(1), 2);
            due("DOUBT", x.drinker(0, 0), 4);
            due("ties", x.drinker(1, 2), 4);
            due("an act undone", x.undo(), 3);
            due("who believes", x.rumour(0), 0);
        }
    }

    static void promise07_noTownBehindAFault() {
        RumourBrew x = fed(new RumourBrew(), SIX + "d");
        due("a fault", x.town(), -1000137);
        due("no town", x.days(1), STATE);
        due("no drinkers", x.count(1), 0);
        due("no drinker", x.kind(0), BAD);
    }

    // ---- 8: fault

    static void promise08_0BeforeOne() {
        RumourBrew x = new RumourBrew();
        due("new", x.fault(), 0);
        x.feed(-1);
        x.brew(0, 0);
        x.row(0, 0, -1);
        due("refusals and findings are no faults", x.fault(), 0);
        fed(x, TWO).town();
        due("a town", x.fault(), 0);
    }

    static void promise08_theLatest() {
        RumourBrew x = new RumourBrew();
        fed(x, "o21").town();
        due("2", x.fault(), 2);
        fed(x, SIX + "d").town();
        due("3", x.fault(), 3);
        x.town();
        due("1", x.fault(), 1);
        fed(x, TEN + "t").town();
        due("3", x.fault(), 3);
    }

    static void promise08_staysBehindATown() {
        RumourBrew x = new RumourBrew();
        fed(x, "o21").town();
        due("a town", fed(x, TWO).town(), 2);
        due("still", x.fault(), 2);
        x.image(0);
        x.restore(0);
        x.brew(0, 1);
        x.undo();
        x.feed('z');
        due("still", x.fault(), 2);
    }
}
