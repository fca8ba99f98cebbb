/** Boundary cases of promises 22 to 24 and of the terms they stand on: the text, its orders, its faults. */
public final class TextEdgeTests {
    private static final int BAD = Edges.BAD, FULL = Edges.FULL;

    public static void main(String[] args) {
        Edges.runAll(TextEdgeTests.class);
    }

    private static void due(long got, long want) {
        Edges.due(got, want);
    }

    private static StrokeCuts texted(int w, int h, String text) {
        StrokeCuts c = Edges.sized(w, h);
        Edges.typeAll(c, text);
        return c;
    }

    private static void retype(StrokeCuts c, String text) {
        c.clear();
        Edges.typeAll(c, text);
    }

    /** In a picture of 4 times 3 dots; by a fault nothing is done, nothing counts, no state is left. */
    private static void faultDue(String text, int place) {
        StrokeCuts c = Edges.busy();
        retype(c, text);
        // there must be room for a state that the call should not leave
        due(c.back(), 7);
        due(c.does(), -10 - place);
        Edges.shadesDue(c, "7438", "8528", "9124");
        Edges.marksDue(c, "f...", ".f..", "....");
        int[] want = {1, 0, 0, 4, 3, 20, 3, 2, 1, 8, 8, text.length(), 7};
        for (int what = 0; what < 13; what++) {
            due(c.told(what), want[what]);
        }
    }

    private static void marksDue(String text, int orders, String... rows) {
        StrokeCuts c = texted(rows[0].length(), rows.length, text);
        due(c.does(), orders);
        Edges.marksDue(c, rows);
    }

    // ---- promise 22

    static void p22_byteNoughtIsTheLeast() {
        StrokeCuts c = new StrokeCuts();
        due(c.type(0), 1);
        due(c.told(11), 1);
    }

    static void p22_byte127IsTheGreatest() {
        StrokeCuts c = new StrokeCuts();
        due(c.type(127), 1);
        due(c.told(11), 1);
    }

    static void p22_byteBelowNoughtIsBad() {
        Edges.bad(c -> c.type(-1));
    }

    static void p22_byte128IsBad() {
        Edges.bad(c -> c.type(128));
    }

    static void p22_bytesFarOutAreBad() {
        // 256 more than a byte that can, so that a cut byte would pass
        Edges.bad(c -> c.type(256 + 'f'));
        for (int v : Edges.FAR_OUT) {
            Edges.bad(c -> c.type(v));
        }
    }

    static void p22_theHundredthByteCan() {
        StrokeCuts c = new StrokeCuts();
        for (int i = 1; i <= 100; i++) {
            due(c.type(' '), i);
        }
        due(c.told(2), 0);
    }

    private static void fillText(StrokeCuts c) {
        for (int i = c.told(11); i < 100; i++) {
            c.type(' ');
        }
    }

    static void p22_theHundredAndFirstIsFull() {
        Edges.refused(FULL, TextEdgeTests::fillText, c -> c.type(' '));
        Edges.refused(FULL, TextEdgeTests::fillText, c -> c.type(0));
        Edges.refused(FULL, TextEdgeTests::fillText, c -> c.type(127));
    }

    static void p22_fullCountsEachTime() {
        StrokeCuts c = new StrokeCuts();
        fillText(c);
        due(c.type('f'), FULL);
        due(c.type('f'), FULL);
        due(c.type('f'), FULL);
        due(c.told(2), 3);
        due(c.told(11), 100);
    }

    static void p22_badIsToldAheadOfFull() {
        Edges.refused(BAD, TextEdgeTests::fillText, c -> c.type(128));
        Edges.refused(BAD, TextEdgeTests::fillText, c -> c.type(-1));
    }

    static void p22_afterFullTheTextCanBeClearedAndTyped() {
        StrokeCuts c = new StrokeCuts();
        fillText(c);
        c.type('f');
        due(c.clear(), 100);
        due(c.type('l'), 1);
        due(c.type('1'), 2);
        due(c.type(';'), 3);
        due(c.does(), 1);
    }

    static void p22_leavesNoState() {
        StrokeCuts c = new StrokeCuts();
        c.type('f');
        due(c.told(12), 0);
        due(c.back(), Edges.NO);
        due(c.told(11), 1);
    }

    // ---- promise 23

    static void p23_anEmptyTextHadNone() {
        StrokeCuts c = new StrokeCuts();
        due(c.clear(), 0);
        due(c.clear(), 0);
        due(c.told(11), 0);
    }

    static void p23_aFullTextHadAHundred() {
        StrokeCuts c = new StrokeCuts();
        fillText(c);
        due(c.clear(), 100);
        due(c.clear(), 0);
        due(c.told(11), 0);
    }

    static void p23_nothingOfTheOldTextStays() {
        StrokeCuts c = texted(4, 3, "f00;g11;");
        due(c.clear(), 8);
        due(c.does(), -10);
        Edges.typeAll(c, "f2");
        due(c.does(), -12);
        Edges.typeAll(c, "2;");
        due(c.does(), 1);
        Edges.marksDue(c, "....", "....", "..f.");
    }

    static void p23_leavesNoState() {
        StrokeCuts c = texted(4, 3, "f00;");
        due(c.told(12), 1);
        c.clear();
        due(c.told(12), 1);
        due(c.back(), 0);
        due(c.told(11), 0);
    }

    // ---- promise 24: texts that can be done

    static void p24_markOfOneDot() {
        marksDue("f00;", 1, "f...", "....", "....");
        marksDue("g00;", 1, "g...", "....", "....");
        marksDue("f00;n00;", 2, "....", "....", "....");
    }

    static void p24_theFarCornerIsADot() {
        marksDue("f32;", 1, "....", "....", "...f");
        marksDue("f51;", 1, "......", ".....f");
        marksDue("g15;", 1, "..", "..", "..", "..", "..", ".g");
        marksDue("f55;", 1, "......", "......", "......", "......", "......", ".....f");
    }

    static void p24_markOfALine() {
        marksDue("f0032;", 1, "f...", ".ff.", "...f");
        marksDue("g3200;", 1, "g...", ".gg.", "...g");
        marksDue("f0032;n0032;", 2, "....", "....", "....");
    }

    static void p24_aHalfInALineGoesToTheGreaterOne() {
        marksDue("f0021;", 1, "f..", ".ff");
        marksDue("f2100;", 1, "f..", ".ff");
        marksDue("f0120;", 1, "..f", "ff.");
    }

    static void p24_lineOfOneDot() {
        marksDue("f1111;", 1, "...", ".f.");
    }

    static void p24_noneTakesMarksOfALineAway() {
        marksDue("f0030;g0131;n1020;n1121;", 4, "f..f", "g..g");
    }

    static void p24_shadesOfNoughtAndNine() {
        StrokeCuts c = texted(2, 2, "s009;s119;s110;");
        due(c.does(), 3);
        Edges.shadesDue(c, "90", "00");
    }

    static void p24_ordersAreDoneInTurn() {
        StrokeCuts c = texted(3, 2, "f00;g00;s109;s104;g0020;f11;n11;");
        due(c.does(), 7);
        Edges.marksDue(c, "ggg", "...");
        Edges.shadesDue(c, "040", "000");
    }

    static void p24_learningGoesByWhatStandsAheadOfIt() {
        StrokeCuts c = texted(2, 2, "l1;f0010;g0111;s004;s104;l1;");
        due(c.does(), 6);
        // at first all are in: tone 0 stays 0; then the figure's mean is 4, the ground's 0
        due(c.told(8), 4);
        due(c.told(9), 0);
    }

    static void p24_oneToNineRoundsOfLearning() {
        StrokeCuts c = Edges.shaded("233", "313");
        c.mark(0, 0, 2);
        c.mark(2, 0, 1);
        c.sets(0, 1);
        c.sets(1, 0);
        c.sets(3, 3);
        c.sets(4, 2);
        Edges.typeAll(c, "l1;");
        due(c.does(), 1);
        due(c.told(8), 2);
        retype(c, "l2;");
        due(c.does(), 1);
        due(c.told(8), 2);
        retype(c, "l9;");
        due(c.does(), 1);
        due(c.told(8), 3);
        retype(c, "l8;l9;");
        due(c.does(), 2);
        due(c.told(8), 2);
    }

    static void p24_learningThatChangesNoToneIsAnOrderToo() {
        StrokeCuts c = texted(2, 2, "l9;l1;");
        due(c.does(), 2);
        due(c.told(12), 2);
    }

    static void p24_blanksAhead() {
        marksDue("   f00;", 1, "f.", "..");
    }

    static void p24_blanksBehind() {
        marksDue("f00;   ", 1, "f.", "..");
    }

    static void p24_blanksWithin() {
        marksDue("f  0  0  1  1  ;", 1, "f.", ".f");
        marksDue("f 00 ; g 1 1;", 2, "f.", ".g");
        StrokeCuts c = texted(2, 2, "s 1 0 7 ; l 1 ;");
        due(c.does(), 2);
        due(c.dot(1, 0, 0), 7);
    }

    static void p24_noBlanksAtAll() {
        marksDue("f00;g11;f0111;", 3, "f.", "ff");
    }

    static void p24_textsOfAHundredBytes() {
        StrokeCuts c = texted(2, 2, "f00;".repeat(25));
        due(c.told(11), 100);
        due(c.does(), 25);
        retype(c, "l1;".repeat(33) + " ");
        due(c.told(11), 100);
        due(c.does(), 33);
        retype(c, " ".repeat(96) + "g11;");
        due(c.told(11), 100);
        due(c.does(), 1);
        Edges.marksDue(c, "f.", ".g");
    }

    static void p24_theTextStays() {
        StrokeCuts c = texted(2, 2, "f00;");
        due(c.does(), 1);
        due(c.told(11), 4);
        c.mark(0, 0, 0);
        due(c.does(), 1);
        Edges.marksDue(c, "f.", "..");
        Edges.typeAll(c, "g11;");
        due(c.does(), 2);
        Edges.marksDue(c, "f.", ".g");
    }

    static void p24_oneStateForAllOrders() {
        StrokeCuts c = texted(3, 2, "f00;g20;s119;l3;n20;");
        due(c.does(), 5);
        due(c.told(12), 2);
        due(c.back(), 1);
        Edges.marksDue(c, "...", "...");
        Edges.shadesDue(c, "000", "000");
        due(c.told(8), 0);
        due(c.told(9), 9);
        Edges.leavesState(StrokeCuts::does);
    }

    static void p24_leavesAStateIfNothingChangesToo() {
        StrokeCuts c = texted(3, 2, "n00;");
        due(c.does(), 1);
        due(c.told(12), 2);
    }

    static void p24_whatIsADotGoesByThisPicture() {
        StrokeCuts c = texted(6, 2, "f51;");
        due(c.does(), 1);
        c.picture(2, 6);
        due(c.does(), -11);
        c.picture(6, 6);
        due(c.does(), 1);
        c.picture(5, 2);
        due(c.does(), -11);
        c.back();
        due(c.does(), 1);
    }

    // ---- promise 24: faults

    static void p24_anEmptyTextEndsTooEarly() {
        faultDue("", 0);
    }

    static void p24_blanksAloneEndTooEarly() {
        faultDue(" ", 1);
        faultDue("     ", 5);
        faultDue(" ".repeat(100), 100);
    }

    static void p24_anOrderWithoutItsEnd() {
        faultDue("f00", 3);
        faultDue("f0011", 5);
        faultDue("s005", 4);
        faultDue("l1", 2);
        faultDue("f00 ", 4);
        faultDue("f00;g11", 7);
    }

    static void p24_anOrderThatEndsWithinItsNumbers() {
        faultDue("f", 1);
        faultDue("g0", 2);
        faultDue("n000", 4);
        faultDue("s", 1);
        faultDue("s0", 2);
        faultDue("s00", 3);
        faultDue("l", 1);
        faultDue("l ", 2);
        faultDue("f00;s", 5);
    }

    static void p24_aHundredBytesThatEndTooEarly() {
        faultDue("f00;".repeat(24) + "f001", 100);
        faultDue("f00;".repeat(24) + "f00 ", 100);
    }

    static void p24_aByteThatIsNoOrder() {
        faultDue("x00;", 0);
        faultDue("0", 0);
        faultDue("m00;", 0);
        faultDue("e00;", 0);
        faultDue("h00;", 0);
        faultDue("k1;", 0);
        faultDue("t000;", 0);
    }

    static void p24_greatLettersAreNoOrders() {
        faultDue("F00;", 0);
        faultDue("G00;", 0);
        faultDue("N00;", 0);
        faultDue("S000;", 0);
        faultDue("L1;", 0);
    }

    static void p24_anEndWithoutAnOrder() {
        faultDue(";", 0);
        faultDue(" ;", 1);
        faultDue("f00;;", 4);
        faultDue("f00; ;", 5);
    }

    static void p24_anEndTooEarlyWithinItsNumbers() {
        faultDue("f;", 1);
        faultDue("f0;", 2);
        faultDue("f000;", 4);
        faultDue("s;", 1);
        faultDue("s0;", 2);
        faultDue("s00;", 3);
        faultDue("l;", 1);
    }

    static void p24_aFigureThatIsNoX() {
        faultDue("f40;", 1);
        faultDue("g40;", 1);
        faultDue("n40;", 1);
        faultDue("s405;", 1);
        faultDue("f90;", 1);
        faultDue("f 4 0;", 2);
    }

    static void p24_aFigureThatIsNoY() {
        faultDue("f03;", 2);
        faultDue("g03;", 2);
        faultDue("n03;", 2);
        faultDue("s035;", 2);
        faultDue("f09;", 2);
        faultDue("f 0 3;", 4);
    }

    static void p24_aFigureThatIsNoXAtTheEndOfALine() {
        faultDue("f0040;", 3);
        faultDue("g0040;", 3);
        faultDue("n0040;", 3);
    }

    static void p24_aFigureThatIsNoYAtTheEndOfALine() {
        faultDue("f0003;", 4);
        faultDue("g0003;", 4);
        faultDue("n0003;", 4);
    }

    static void p24_tooManyNumbers() {
        faultDue("f00110;", 5);
        faultDue("s0055;", 4);
        faultDue("l11;", 2);
        faultDue("l10;", 2);
        faultDue("l 1 0;", 4);
    }

    static void p24_noRoundsOfLearning() {
        faultDue("l0;", 1);
        faultDue("l 0;", 2);
    }

    static void p24_bytesNextToTheFigures() {
        faultDue("f/0;", 1);
        faultDue("f:0;", 1);
        faultDue("f0/;", 2);
        faultDue("s00/;", 3);
        faultDue("s00:;", 3);
        faultDue("l:;", 1);
        faultDue("l/;", 1);
    }

    static void p24_bytesNextToTheEnd() {
        faultDue("f00:", 3);
        faultDue("f00<", 3);
        faultDue("f0011:", 5);
        faultDue("s000<", 4);
        faultDue("l1:", 2);
    }

    static void p24_signsAreNoNumbers() {
        faultDue("f-10;", 1);
        faultDue("f+10;", 1);
        faultDue("f0,0;", 2);
        faultDue("f0.0;", 2);
    }

    static void p24_aLetterWithinAnOrder() {
        faultDue("fg00;", 1);
        faultDue("f0g0;", 2);
        faultDue("f00g11;", 3);
        faultDue("l1f00;", 2);
        faultDue("s000l1;", 4);
    }

    static void p24_blanksAloneAreThirtyTwo() {
        int[] others = {0, 9, 10, 13, 31, 33, 127};
        for (int other : others) {
            faultDue("f" + (char) other + "00;", 1);
            faultDue((char) other + "f00;", 0);
            faultDue("f00;" + (char) other, 4);
            faultDue("f00" + (char) other + ";", 3);
        }
    }

    /** Of all 128 bytes behind this text those that are told, and blanks, can stand; any other one is a fault at its place. */
    private static void nextDue(String text, String canStand) {
        for (char next = 0; next < 128; next++) {
            StrokeCuts c = texted(4, 3, text + next);
            int fault = -10 - text.length();
            boolean isFault = c.does() == fault;
            due(isFault ? next : -1, canStand.indexOf(next) < 0 && next != ' ' ? next : -1);
        }
    }

    static void p24_everyByteWhereAnOrderBegins() {
        nextDue("", "fgnsl");
        nextDue("  ", "fgnsl");
        nextDue("f00;", "fgnsl");
        nextDue("l1; ", "fgnsl");
    }

    static void p24_everyByteWhereAnXIsDue() {
        for (String text : new String[] {"f", "g", "n", "s", "f00;s "}) {
            nextDue(text, "0123");
        }
    }

    static void p24_everyByteWhereAYIsDue() {
        for (String text : new String[] {"f0", "g1", "n2", "s3", "f003", "g000", "n00 0"}) {
            nextDue(text, "012");
        }
    }

    static void p24_everyByteWhereALineMayGoOn() {
        for (String text : new String[] {"f00", "g00", "n32"}) {
            nextDue(text, "0123;");
        }
    }

    static void p24_everyByteWhereAShadeIsDue() {
        nextDue("s00", "0123456789");
    }

    static void p24_everyByteWhereRoundsAreDue() {
        nextDue("l", "123456789");
    }

    static void p24_everyByteWhereTheEndIsDue() {
        for (String text : new String[] {"f0011", "g3200", "n0000", "s009", "l9"}) {
            nextDue(text, ";");
        }
    }

    static void p24_blanksCountForThePlace() {
        faultDue("  f 0 x;", 6);
        faultDue(" f00 ;  q", 8);
    }

    static void p24_theFirstOfTwoFaultsIsTold() {
        faultDue("f90;q", 1);
        faultDue("f03;l0;", 2);
        faultDue("q;;;", 0);
    }

    static void p24_nothingIsDoneIfALaterOrderHasAFault() {
        faultDue("f20;s119;l3;n00;q", 16);
        faultDue("g0030;f3", 8);
        faultDue("s009;s009", 9);
    }

    static void p24_aFaultLeavesTheTextToGoOn() {
        StrokeCuts c = texted(4, 3, "f0");
        due(c.does(), -12);
        due(c.type('0'), 3);
        due(c.does(), -13);
        due(c.type(';'), 4);
        due(c.does(), 1);
    }
}
