/** Boundary cases of promises 6 to 10 and of the terms they stand on: marks, lines, settings, what dots and links weigh. */
public final class MarkEdgeTests {
    private static final int NONE = Edges.NONE, BAD = Edges.BAD;

    public static void main(String[] args) {
        Edges.runAll(MarkEdgeTests.class);
    }

    private static void due(long got, long want) {
        Edges.due(got, want);
    }

    // ---- promise 6

    static void p06_theThreeMarksAnswerWhatWas() {
        StrokeCuts c = new StrokeCuts();
        due(c.mark(1, 2, 1), 0);
        due(c.mark(1, 2, 2), 1);
        due(c.mark(1, 2, 0), 2);
        due(c.mark(1, 2, 0), 0);
        Edges.marksDue(c, "....", "....", "....", "....");
    }

    static void p06_markBelowNoughtIsBad() {
        Edges.bad(c -> c.mark(1, 1, -1));
    }

    static void p06_markOfThreeIsBad() {
        Edges.bad(c -> c.mark(1, 1, 3));
    }

    static void p06_columnsOutsideAreBad() {
        Edges.bad(c -> c.mark(-1, 1, 1));
        Edges.bad(c -> c.mark(4, 1, 1));
    }

    static void p06_rowsOutsideAreBad() {
        Edges.bad(c -> c.mark(1, -1, 1));
        Edges.bad(c -> c.mark(1, 3, 1));
    }

    static void p06_numbersFarOutAreBad() {
        for (int v : Edges.FAR_OUT) {
            Edges.bad(c -> c.mark(v, 1, 1));
            Edges.bad(c -> c.mark(1, v, 1));
            Edges.bad(c -> c.mark(1, 1, v));
        }
    }

    static void p06_theFourCornersAreDots() {
        StrokeCuts c = Edges.sized(3, 6);
        due(c.mark(0, 0, 1), 0);
        due(c.mark(2, 0, 2), 0);
        due(c.mark(0, 5, 2), 0);
        due(c.mark(2, 5, 1), 0);
        Edges.marksDue(c, "f.g", "...", "...", "...", "...", "g.f");
    }

    static void p06_theShadeStays() {
        StrokeCuts c = new StrokeCuts();
        c.shade(3, 0, 7);
        c.mark(3, 0, 1);
        due(c.dot(3, 0, 0), 7);
    }

    static void p06_leavesAState() {
        Edges.leavesState(c -> c.mark(2, 2, 1));
    }

    static void p06_leavesAStateForTheSameMarkToo() {
        Edges.leavesState(c -> c.mark(0, 0, 1));
    }

    // ---- promise 7

    static void p07_lineOfOneDot() {
        StrokeCuts c = new StrokeCuts();
        due(c.stroke(1, 3, 3, 3, 3), 1);
        due(c.stroke(1, 0, 0, 0, 0), 1);
        Edges.marksDue(c, "f...", "....", "....", "...f");
    }

    static void p07_levelAndUprightLines() {
        StrokeCuts c = Edges.sized(6, 6);
        due(c.stroke(1, 0, 2, 5, 2), 6);
        due(c.stroke(2, 3, 5, 3, 0), 6);
        Edges.marksDue(c, "...g..", "...g..", "fffgff", "...g..", "...g..", "...g..");
    }

    static void p07_linesFromCornerToCorner() {
        StrokeCuts c = Edges.sized(6, 6);
        due(c.stroke(1, 0, 0, 5, 5), 6);
        due(c.stroke(2, 0, 5, 5, 0), 6);
        Edges.marksDue(c, "f....g", ".f..g.", "..fg..", "..gf..", ".g..f.", "g....f");
    }

    private static void lineDue(String rows, int x, int y, int toX, int toY) {
        String[] want = rows.split("/");
        StrokeCuts c = Edges.sized(want[0].length(), want.length);
        due(c.stroke(1, x, y, toX, toY), rows.chars().filter(sign -> sign == 'f').count());
        Edges.marksDue(c, want);
    }

    static void p07_aHalfGoesDown() {
        lineDue("f../.ff", 0, 0, 2, 1);
    }

    static void p07_aHalfGoesDownOnTheWayUp() {
        lineDue("f../.ff", 2, 1, 0, 0);
        lineDue("..f/ff.", 0, 1, 2, 0);
    }

    static void p07_aHalfGoesRight() {
        lineDue("f./.f/.f", 0, 0, 1, 2);
    }

    static void p07_aHalfGoesRightOnTheWayLeft() {
        lineDue("f./.f/.f", 1, 2, 0, 0);
        lineDue(".f/.f/f.", 1, 0, 0, 2);
    }

    static void p07_manyHalvesOfOneLine() {
        // by 4, down 2: 0, a half, 1, one and a half, 2
        lineDue("f..../.ff../...ff", 0, 0, 4, 2);
        lineDue("f..../.ff../...ff", 4, 2, 0, 0);
        lineDue("....f/..ff./ff...", 0, 2, 4, 0);
    }

    static void p07_lessThanAHalfStays() {
        // by 5, down 1: 0.2 0.4 0.6 0.8; by 5, down 2: 0.4 0.8 1.2 1.6; by 3, down 1: a third, two thirds
        lineDue("fff.../...fff", 0, 0, 5, 1);
        lineDue("fff.../...fff", 5, 1, 0, 0);
        lineDue("ff..../..ff../....ff", 0, 0, 5, 2);
        lineDue("ff../..ff", 0, 0, 3, 1);
        lineDue("..ff/ff..", 3, 0, 0, 1);
    }

    static void p07_threeQuartersGoOn() {
        // by 4, down 3: 0.75, 1.5 (the greater one), 2.25
        lineDue("f..../.f.../..ff./....f", 0, 0, 4, 3);
        lineDue("f..../.f.../..ff./....f", 4, 3, 0, 0);
    }

    static void p07_farnessIsBetweenTheEndsNotFromTheBorder() {
        // two apart, wherever they lie: three dots, none more on the way
        lineDue("..../.f../..ff", 1, 1, 3, 2);
        lineDue("..../.f../..ff", 3, 2, 1, 1);
        lineDue(".../.../.f./..f/..f", 1, 2, 2, 4);
        lineDue(".../.../.f./..f/..f", 2, 4, 1, 2);
    }

    static void p07_onlyThoseThatWereOtherwiseCount() {
        StrokeCuts c = new StrokeCuts();
        due(c.stroke(1, 0, 0, 3, 0), 4);
        due(c.stroke(1, 0, 0, 3, 0), 0);
        due(c.stroke(2, 1, 0, 2, 0), 2);
        due(c.stroke(1, 0, 0, 3, 0), 2);
    }

    static void p07_markNoneTakesAway() {
        StrokeCuts c = new StrokeCuts();
        c.stroke(1, 0, 1, 1, 1);
        c.stroke(2, 2, 1, 3, 1);
        due(c.stroke(0, 1, 1, 2, 1), 2);
        Edges.marksDue(c, "....", "f..g", "....", "....");
        due(c.stroke(0, 0, 3, 3, 3), 0);
    }

    static void p07_markOutsideIsBad() {
        Edges.bad(c -> c.stroke(-1, 0, 0, 3, 2));
        Edges.bad(c -> c.stroke(3, 0, 0, 3, 2));
    }

    static void p07_beginOutsideIsBad() {
        Edges.bad(c -> c.stroke(1, -1, 0, 3, 2));
        Edges.bad(c -> c.stroke(1, 4, 0, 3, 2));
        Edges.bad(c -> c.stroke(1, 0, -1, 3, 2));
        Edges.bad(c -> c.stroke(1, 0, 3, 3, 2));
    }

    static void p07_endOutsideIsBad() {
        Edges.bad(c -> c.stroke(1, 0, 0, -1, 2));
        Edges.bad(c -> c.stroke(1, 0, 0, 4, 2));
        Edges.bad(c -> c.stroke(1, 0, 0, 3, -1));
        Edges.bad(c -> c.stroke(1, 0, 0, 3, 3));
    }

    static void p07_numbersFarOutAreBad() {
        for (int v : Edges.FAR_OUT) {
            Edges.bad(c -> c.stroke(v, 0, 0, 3, 2));
            Edges.bad(c -> c.stroke(1, v, 0, 3, 2));
            Edges.bad(c -> c.stroke(1, 0, v, 3, 2));
            Edges.bad(c -> c.stroke(1, 0, 0, v, 2));
            Edges.bad(c -> c.stroke(1, 0, 0, 3, v));
        }
    }

    static void p07_leavesAState() {
        Edges.leavesState(c -> c.stroke(2, 0, 2, 3, 0));
    }

    static void p07_leavesAStateIfNoneWasOtherwiseToo() {
        Edges.leavesState(c -> due(c.stroke(1, 0, 0, 1, 1), 0));
    }

    // ---- promise 8

    // least and greatest can, what is next to them is bad; nothing but this one changes
    private static void settingDue(int what, int first, int least, int greatest) {
        StrokeCuts c = new StrokeCuts();
        due(c.sets(what, least), first);
        due(c.told(5 + what), least);
        due(c.sets(what, greatest), least);
        due(c.told(5 + what), greatest);
        int[] others = {10, 2, 1, 0, 9, 4};
        for (int other = 0; other < 6; other++) {
            due(c.told(5 + other), other == what ? greatest : others[other]);
        }
        Edges.bad(b -> b.sets(what, least - 1));
        Edges.bad(b -> b.sets(what, greatest + 1));
        for (int v : Edges.FAR_OUT) {
            Edges.bad(b -> b.sets(what, v));
        }
    }

    static void p08_hardIsOneToFifty() {
        settingDue(0, 10, 1, 50);
    }

    static void p08_slopeIsNoughtToNine() {
        settingDue(1, 2, 0, 9);
    }

    static void p08_pullIsNoughtToNine() {
        settingDue(2, 1, 0, 9);
    }

    static void p08_toneOfTheFigureIsNoughtToNine() {
        settingDue(3, 0, 0, 9);
    }

    static void p08_toneOfTheGroundIsNoughtToNine() {
        settingDue(4, 9, 0, 9);
    }

    static void p08_nearIsFourOrEight() {
        settingDue(5, 4, 4, 8);
    }

    static void p08_nearBetweenFourAndEightIsBad() {
        Edges.bad(c -> c.sets(5, 5));
        Edges.bad(c -> c.sets(5, 6));
        Edges.bad(c -> c.sets(5, 7));
        Edges.bad(c -> c.sets(5, 0));
    }

    static void p08_whatOutsideIsBad() {
        Edges.bad(c -> c.sets(-1, 4));
        Edges.bad(c -> c.sets(6, 4));
        for (int v : Edges.FAR_OUT) {
            Edges.bad(c -> c.sets(v, 4));
        }
    }

    static void p08_bothNumbersWrongCountOnce() {
        Edges.bad(c -> c.sets(6, 60));
    }

    static void p08_leavesAState() {
        for (int what = 0; what < 6; what++) {
            int which = what;
            Edges.leavesState(c -> c.sets(which, 4));
        }
    }

    static void p08_leavesAStateForTheSameValueToo() {
        for (int what = 0; what < 6; what++) {
            int which = what;
            Edges.leavesState(c -> c.sets(which, c.told(5 + which)));
        }
    }

    // ---- promise 9

    static void p09_whatOutsideIsBad() {
        Edges.bad(c -> c.dot(0, 0, -1));
        Edges.bad(c -> c.dot(0, 0, 4));
        for (int v : Edges.FAR_OUT) {
            Edges.bad(c -> c.dot(0, 0, v));
        }
    }

    static void p09_dotsOutsideAreBad() {
        for (int what = 0; what < 4; what++) {
            int which = what;
            Edges.bad(c -> c.dot(-1, 0, which));
            Edges.bad(c -> c.dot(4, 0, which));
            Edges.bad(c -> c.dot(0, -1, which));
            Edges.bad(c -> c.dot(0, 3, which));
        }
        for (int v : Edges.FAR_OUT) {
            Edges.bad(c -> c.dot(v, 0, 0));
            Edges.bad(c -> c.dot(0, v, 0));
        }
    }

    static void p09_dotAndWhatWrongCountOnce() {
        Edges.bad(c -> c.dot(9, 9, 9));
    }

    static void p09_withoutPullADotAddsNothing() {
        StrokeCuts c = Edges.shaded("59", "00");
        c.sets(2, 0);
        for (int x = 0; x < 2; x++) {
            due(c.dot(x, 0, 2), 0);
            due(c.dot(x, 0, 3), 0);
        }
    }

    static void p09_theMostADotAdds() {
        StrokeCuts c = Edges.shaded("90", "00");
        c.sets(2, 9);
        due(c.dot(0, 0, 2), 81);
        due(c.dot(0, 0, 3), 0);
        due(c.dot(1, 0, 2), 0);
        due(c.dot(1, 0, 3), 81);
    }

    static void p09_farnessCountsBothWays() {
        StrokeCuts c = Edges.shaded("37", "00");
        c.sets(2, 2);
        c.sets(3, 5);
        c.sets(4, 6);
        due(c.dot(0, 0, 2), 4);
        due(c.dot(1, 0, 2), 4);
        due(c.dot(0, 0, 3), 6);
        due(c.dot(1, 0, 3), 2);
    }

    static void p09_aMarkDoesNotChangeWhatItAdds() {
        StrokeCuts c = Edges.shaded("37", "00");
        Edges.marks(c, "fg");
        due(c.dot(0, 0, 2), 3);
        due(c.dot(0, 0, 3), 6);
        due(c.dot(1, 0, 2), 7);
        due(c.dot(1, 0, 3), 2);
    }

    static void p09_changesNothing() {
        int[] want = {Edges.busy().dot(3, 1, 0), 2, 2 * Math.abs(Edges.busy().dot(3, 1, 0) - 1), 2 * Math.abs(Edges.busy().dot(3, 1, 0) - 8)};
        for (int what = 0; what < 4; what++) {
            int which = what;
            Edges.changesNothing(c -> c.dot(3, 1, which), want[what]);
        }
    }

    // ---- promise 10

    static void p10_noLinkToTheRightOfTheLastColumn() {
        StrokeCuts c = Edges.sized(3, 4);
        for (int y = 0; y < 4; y++) {
            due(c.link(2, y, 0), NONE);
            due(c.link(1, y, 0), 10);
        }
    }

    static void p10_noLinkBelowTheLastRow() {
        StrokeCuts c = Edges.sized(4, 3);
        for (int x = 0; x < 4; x++) {
            due(c.link(x, 2, 1), NONE);
            due(c.link(x, 1, 1), 10);
        }
    }

    static void p10_nearFourHasNoLinksTwoAndThree() {
        StrokeCuts c = new StrokeCuts();
        due(c.link(1, 1, 2), NONE);
        due(c.link(1, 1, 3), NONE);
        c.sets(5, 8);
        due(c.link(1, 1, 2), 5);
        due(c.link(1, 1, 3), 5);
        c.sets(5, 4);
        due(c.link(1, 1, 2), NONE);
        due(c.link(1, 1, 3), NONE);
    }

    static void p10_noLinkTwoAtTheRightAndBelow() {
        StrokeCuts c = Edges.sized(3, 3);
        c.sets(5, 8);
        due(c.link(2, 0, 2), NONE);
        due(c.link(2, 1, 2), NONE);
        due(c.link(0, 2, 2), NONE);
        due(c.link(1, 2, 2), NONE);
        due(c.link(2, 2, 2), NONE);
        due(c.link(1, 1, 2), 5);
    }

    static void p10_noLinkThreeAtTheLeftAndBelow() {
        StrokeCuts c = Edges.sized(3, 3);
        c.sets(5, 8);
        due(c.link(0, 0, 3), NONE);
        due(c.link(0, 1, 3), NONE);
        due(c.link(0, 2, 3), NONE);
        due(c.link(1, 2, 3), NONE);
        due(c.link(2, 2, 3), NONE);
        due(c.link(1, 1, 3), 5);
        due(c.link(2, 0, 3), 5);
    }

    static void p10_eachLinkLeadsToItsOwnDot() {
        // only the dot in the middle is alike to none; each of its links by the shade of its other end
        StrokeCuts c = Edges.shaded("000", "001", "234");
        c.sets(0, 40);
        c.sets(1, 4);
        c.sets(5, 8);
        due(c.link(1, 1, 0), 40 - 4);
        due(c.link(1, 1, 1), 40 - 12);
        due(c.link(1, 1, 2), (40 - 16) / 2);
        due(c.link(1, 1, 3), (40 - 8) / 2);
    }

    static void p10_aWeightBelowOneIsOne() {
        StrokeCuts c = Edges.shaded("09", "00");
        due(c.link(0, 0, 0), 1);
        c.sets(0, 1);
        c.sets(1, 9);
        due(c.link(0, 0, 0), 1);
        due(c.link(1, 0, 1), 1);
    }

    static void p10_aWeightOfNoughtIsOne() {
        StrokeCuts c = Edges.shaded("05", "00");
        due(c.link(0, 0, 0), 1);
        c.sets(0, 11);
        due(c.link(0, 0, 0), 1);
        c.sets(0, 12);
        due(c.link(0, 0, 0), 2);
    }

    static void p10_withoutSlopeAllWeighHard() {
        StrokeCuts c = Edges.shaded("09", "90");
        c.sets(1, 0);
        due(c.link(0, 0, 0), 10);
        c.sets(0, 1);
        due(c.link(0, 0, 1), 1);
    }

    static void p10_theGreatestWeightIsFifty() {
        StrokeCuts c = new StrokeCuts();
        c.sets(0, 50);
        c.sets(1, 9);
        due(c.link(0, 0, 0), 50);
    }

    static void p10_farnessCountsBothWays() {
        StrokeCuts c = Edges.shaded("03", "30");
        due(c.link(0, 0, 0), 4);
        due(c.link(0, 1, 0), 4);
    }

    static void p10_halfIsCut() {
        StrokeCuts c = new StrokeCuts();
        c.sets(5, 8);
        c.sets(0, 7);
        due(c.link(0, 0, 2), 3);
        due(c.link(1, 0, 3), 3);
        c.sets(0, 3);
        due(c.link(0, 0, 2), 1);
        c.sets(0, 4);
        due(c.link(0, 0, 2), 2);
    }

    static void p10_halfOfOneIsOne() {
        StrokeCuts c = new StrokeCuts();
        c.sets(5, 8);
        c.sets(0, 1);
        due(c.link(0, 0, 2), 1);
        due(c.link(1, 0, 3), 1);
        c.sets(0, 2);
        due(c.link(0, 0, 2), 1);
        due(c.link(1, 0, 3), 1);
    }

    static void p10_halfOfAWeightBelowOneIsOne() {
        StrokeCuts c = Edges.shaded("00", "09");
        c.sets(5, 8);
        due(c.link(0, 0, 2), 1);
        c = Edges.shaded("00", "90");
        c.sets(5, 8);
        due(c.link(1, 0, 3), 1);
    }

    static void p10_linksNoughtAndOneAreNeverHalved() {
        StrokeCuts c = new StrokeCuts();
        c.sets(5, 8);
        due(c.link(0, 0, 0), 10);
        due(c.link(0, 0, 1), 10);
    }

    static void p10_dOutsideIsBad() {
        Edges.bad(c -> c.link(1, 1, -1));
        Edges.bad(c -> c.link(1, 1, 4));
        for (int v : Edges.FAR_OUT) {
            Edges.bad(c -> c.link(1, 1, v));
        }
    }

    static void p10_dTwoAndThreeAreNotBadWithNearFour() {
        StrokeCuts c = new StrokeCuts();
        due(c.link(0, 0, 2), NONE);
        due(c.link(0, 0, 3), NONE);
        due(c.told(0), 0);
    }

    static void p10_dotsOutsideAreBad() {
        for (int d = 0; d < 4; d++) {
            int which = d;
            Edges.bad(c -> c.link(-1, 1, which));
            Edges.bad(c -> c.link(4, 1, which));
            Edges.bad(c -> c.link(1, -1, which));
            Edges.bad(c -> c.link(1, 3, which));
        }
        for (int v : Edges.FAR_OUT) {
            Edges.bad(c -> c.link(v, 1, 0));
            Edges.bad(c -> c.link(1, v, 0));
        }
    }

    static void p10_noneIsNotRefused() {
        Edges.changesNothing(c -> c.link(3, 2, 0), NONE);
        Edges.changesNothing(c -> c.link(3, 2, 2), NONE);
    }

    static void p10_changesNothing() {
        int apart = Math.abs(Edges.busy().dot(0, 0, 0) - Edges.busy().dot(1, 0, 0));
        Edges.changesNothing(c -> c.link(0, 0, 0), Math.max(1, 20 - 3 * apart));
    }

    static void p10_marksDoNotMatter() {
        StrokeCuts c = new StrokeCuts();
        Edges.marks(c, "fg");
        due(c.link(0, 0, 0), 10);
        due(c.link(4, 0, 0), BAD);
    }
}
