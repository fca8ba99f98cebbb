/** Boundary cases of promises 11 to 17 and of the terms they stand on: least costs, best cut-outs, marks and links that were otherwise. */
public final class CutOutEdgeTests {
    private static final int NONE = Edges.NONE, BAD = Edges.BAD, NO = Edges.NO;
    private static final long ALL_36 = 68719476735L;

    public static void main(String[] args) {
        Edges.runAll(CutOutEdgeTests.class);
    }

    private static void due(long got, long want) {
        Edges.due(got, want);
    }

    /** Nothing pulls, all links weigh 10. */
    private static StrokeCuts unpulled(String... rows) {
        StrokeCuts c = Edges.sized(rows[0].length(), rows.length);
        c.sets(2, 0);
        Edges.marks(c, rows);
        return c;
    }

    // ---- promise 11

    static void p11_nothingPullsNothingIsMarked() {
        due(unpulled("....", "....").cost(), 0);
    }

    static void p11_allDotsCanBeIn() {
        StrokeCuts c = Edges.shaded("00", "00");
        due(c.cost(), 0);
        due(c.side(0), 15);
    }

    static void p11_noDotCanBeIn() {
        StrokeCuts c = Edges.shaded("99", "99");
        due(c.cost(), 0);
        due(c.side(1), 0);
    }

    static void p11_allDotsMarkedFigure() {
        StrokeCuts c = Edges.shaded("98", "76");
        Edges.marks(c, "ff", "ff");
        due(c.cost(), 9 + 8 + 7 + 6);
    }

    static void p11_allDotsMarkedGround() {
        StrokeCuts c = Edges.shaded("01", "23");
        Edges.marks(c, "gg", "gg");
        due(c.cost(), 9 + 8 + 7 + 6);
    }

    static void p11_eachLinkCountsOnce() {
        StrokeCuts c = unpulled("fg", "gg");
        due(c.cost(), 20);
        c.sets(5, 8);
        due(c.cost(), 25);
    }

    static void p11_linksTwoAndThreeCountWithNearEightAlone() {
        StrokeCuts c = unpulled("fg", "gf");
        due(c.cost(), 40);
        c.sets(5, 8);
        due(c.cost(), 40);
        c = unpulled("ff", "gg");
        due(c.cost(), 20);
        c.sets(5, 8);
        due(c.cost(), 30);
    }

    static void p11_linksDoNotWrapAround() {
        // dots 2 and 3 come one behind the other by number, but are not side by side
        StrokeCuts c = unpulled("..f", "g..");
        due(c.cost(), 20);
        c.sets(5, 8);
        due(c.cost(), 25);
        c = unpulled("f.g", "...");
        c.sets(5, 8);
        due(c.cost(), 25);
        c = unpulled("..f", "...", "g..");
        c.sets(5, 8);
        due(c.cost(), 25);
    }

    static void p11_aMarkHoldsAgainstAllPulls() {
        StrokeCuts c = Edges.sized(6, 6);
        c.sets(0, 50);
        c.sets(2, 9);
        c.mark(0, 0, 2);
        due(c.cost(), 81 + 2 * 50);
        c.sets(3, 9);
        c.sets(4, 0);
        c.mark(0, 0, 1);
        due(c.cost(), 81 + 2 * 50);
    }

    static void p11_marksHoldAtTheGreatestCost() {
        StrokeCuts c = Edges.figure("f.f.f.", ".f.f.f", "f.f.f.", ".f.f.f", "f.f.f.", ".f.f.f");
        for (int k = 0; k < 36; k++) {
            c.shade(k % 6, k / 6, (k % 6 + k / 6) % 2 == 0 ? 9 : 0);
        }
        c.sets(0, 50);
        c.sets(1, 0);
        c.sets(2, 9);
        due(c.cost(), 60 * 50 + 36 * 81);
        c.sets(5, 8);
        due(c.cost(), 60 * 50 + 36 * 81);
    }

    static void p11_leastOfTwoThatAreNear() {
        // one dot of shade v within noughts: in it costs v, not in it 9 less v and four links
        StrokeCuts c = Edges.shaded("000", "090", "000");
        due(c.cost(), 4);
        c.shade(1, 1, 6);
        due(c.cost(), 6);
        c.shade(1, 1, 5);
        due(c.cost(), 5);
        c.shade(1, 1, 7);
        due(c.cost(), 6);
        due(c.side(0), 511 - 16);
    }

    static void p11_theLongestCorridor() {
        // a corridor of 24 dots, the longest that nowhere lies beside itself; walls hold by 1, so that it carries the most there is
        StrokeCuts c = Edges.shaded("000000", "999990", "000900", "090009", "009990", "900000");
        c.sets(0, 50);
        c.sets(1, 9);
        c.sets(2, 0);
        c.mark(0, 0, 1);
        c.mark(5, 4, 2);
        // each cut parts the corridor (50) and a wall from it (1): only beside the figure's mark does one suffice
        due(c.cost(), 51);
        due(c.side(0), 1);
        due(c.side(1), 1);
        due(c.tight(0, 0, 0), 2);
        due(c.tight(5, 4, 1), 0);
    }

    static void p11_changesNothing() {
        Edges.onlyAsks(c -> c.cost());
    }

    // ---- promise 12

    static void p12_whatOutsideIsBad() {
        Edges.bad(c -> c.side(-1));
        Edges.bad(c -> c.side(2));
        for (int v : Edges.FAR_OUT) {
            Edges.bad(c -> c.side(v));
        }
    }

    static void p12_allThirtySixDots() {
        StrokeCuts c = Edges.sized(6, 6);
        due(c.side(0), ALL_36);
        due(c.side(1), ALL_36);
    }

    static void p12_theLastDotAlone() {
        StrokeCuts c = Edges.figure("......", "......", "......", "......", "......", ".....f");
        due(c.side(0), 1L << 35);
        due(c.side(1), 1L << 35);
    }

    static void p12_dotThirtyOneIsNoSign() {
        StrokeCuts c = Edges.figure("......", "......", "......", "......", "......", ".f....");
        due(c.side(0), 2147483648L);
        due(c.side(1), 2147483648L);
    }

    static void p12_noDot() {
        StrokeCuts c = Edges.shaded("99", "99");
        due(c.side(0), 0);
        due(c.side(1), 0);
    }

    static void p12_allTied() {
        StrokeCuts c = unpulled("......", "......", "......", "......", "......", "......");
        due(c.side(0), 0);
        due(c.side(1), ALL_36);
    }

    static void p12_dotsPulledAlikeAreInTheGreatestAlone() {
        StrokeCuts c = Edges.shaded("44", "44");
        c.sets(3, 3);
        c.sets(4, 5);
        due(c.side(0), 0);
        due(c.side(1), 15);
    }

    static void p12_anyFigureMarkDrawsAllWithoutPull() {
        StrokeCuts c = unpulled("f..", "...", "...");
        due(c.side(0), 511);
        due(c.side(1), 511);
    }

    static void p12_anyGroundMarkDrawsAllWithoutPull() {
        StrokeCuts c = unpulled("g..", "...", "...");
        due(c.side(0), 0);
        due(c.side(1), 0);
    }

    static void p12_linksOfWeightOneHoldToo() {
        StrokeCuts c = unpulled("f..", "...", "...");
        c.sets(0, 1);
        due(c.side(0), 511);
        c = unpulled("g..", "...", "...");
        c.sets(0, 1);
        due(c.side(1), 0);
    }

    static void p12_leastAndGreatestBetweenTwoMarks() {
        StrokeCuts c = unpulled("f..", "...", "..g");
        due(c.side(0), 1);
        due(c.side(1), 255);
    }

    static void p12_bothAreBest() {
        StrokeCuts c = unpulled("f...", "....", "...g");
        c.draws(3, 4);
        int least = c.cost();
        due(c.costs(c.side(0)), least);
        due(c.costs(c.side(1)), least);
    }

    static void p12_changesNothing() {
        Edges.onlyAsks(c -> c.side(0));
        Edges.onlyAsks(c -> c.side(1));
    }

    // ---- promise 13

    static void p13_inAll() {
        due(unpulled("f.", "..").sure(1, 1), 1);
    }

    static void p13_inNone() {
        due(unpulled("g.", "..").sure(1, 1), 0);
    }

    static void p13_inSome() {
        due(unpulled("..", "..").sure(1, 1), 2);
        due(unpulled("f.", ".g").sure(1, 0), 2);
        due(unpulled("f.", ".g").sure(0, 1), 2);
    }

    static void p13_markedFigureIsInAll() {
        StrokeCuts c = Edges.shaded("99", "99");
        c.mark(1, 0, 1);
        due(c.sure(1, 0), 1);
        due(c.sure(0, 0), 0);
    }

    static void p13_markedGroundIsInNone() {
        StrokeCuts c = Edges.shaded("00", "00");
        c.mark(1, 0, 2);
        due(c.sure(1, 0), 0);
        due(c.sure(0, 0), 1);
    }

    static void p13_dotsOutsideAreBad() {
        Edges.bad(c -> c.sure(-1, 0));
        Edges.bad(c -> c.sure(4, 0));
        Edges.bad(c -> c.sure(0, -1));
        Edges.bad(c -> c.sure(0, 3));
        for (int v : Edges.FAR_OUT) {
            Edges.bad(c -> c.sure(v, 0));
            Edges.bad(c -> c.sure(0, v));
        }
    }

    static void p13_theFarCornerIsADot() {
        due(Edges.sized(6, 6).sure(5, 5), 1);
        due(Edges.sized(6, 2).sure(5, 1), 1);
        due(Edges.sized(2, 6).sure(1, 5), 1);
    }

    static void p13_changesNothing() {
        Edges.changesNothing(c -> c.sure(0, 0), 1);
        Edges.changesNothing(c -> c.sure(3, 1), 0);
    }

    // ---- promise 14

    static void p14_theMarkItHas() {
        StrokeCuts c = unpulled("f.", ".g");
        due(c.were(0, 0, 1), 20);
        due(c.were(1, 1, 2), 20);
        due(c.were(1, 0, 0), 20);
    }

    static void p14_noneTakesTheMarkAway() {
        StrokeCuts c = unpulled("f.", ".g");
        due(c.were(0, 0, 0), 0);
        due(c.were(1, 1, 0), 0);
    }

    static void p14_anotherMarkTakesTheOldOnesPlace() {
        StrokeCuts c = unpulled("f.", ".g");
        due(c.were(0, 0, 2), 0);
        due(c.were(1, 1, 1), 0);
    }

    static void p14_aMarkOnAnUnmarkedDot() {
        StrokeCuts c = unpulled("f.", "..");
        due(c.were(1, 1, 2), 20);
        due(c.were(1, 1, 1), 0);
        due(c.were(1, 1, 0), 0);
    }

    static void p14_theLastDot() {
        StrokeCuts c = Edges.sized(6, 6);
        due(c.were(5, 5, 2), 20 + 9);
        due(c.were(5, 5, 1), 0);
    }

    static void p14_markOutsideIsBad() {
        Edges.bad(c -> c.were(1, 1, -1));
        Edges.bad(c -> c.were(1, 1, 3));
        for (int v : Edges.FAR_OUT) {
            Edges.bad(c -> c.were(1, 1, v));
        }
    }

    static void p14_dotsOutsideAreBad() {
        Edges.bad(c -> c.were(-1, 1, 1));
        Edges.bad(c -> c.were(4, 1, 1));
        Edges.bad(c -> c.were(1, -1, 1));
        Edges.bad(c -> c.were(1, 3, 1));
        for (int v : Edges.FAR_OUT) {
            Edges.bad(c -> c.were(v, 1, 1));
            Edges.bad(c -> c.were(1, v, 1));
        }
    }

    static void p14_changesNothing() {
        Edges.onlyAsks(c -> c.were(0, 0, 2));
        Edges.onlyAsks(c -> c.were(2, 2, 1));
    }

    // ---- promise 15

    static void p15_aWeightOfNoughtHoldsNothing() {
        StrokeCuts c = unpulled("f.", ".g");
        due(c.strain(0, 0, 0, 0), 10);
        due(c.strain(0, 0, 1, 0), 10);
        due(c.strain(1, 0, 1, 0), 10);
        due(c.strain(0, 1, 0, 0), 10);
    }

    static void p15_theGreatestWeightIsNinetyNine() {
        StrokeCuts c = unpulled("fg", "gg");
        due(c.strain(0, 0, 0, 99), 109);
        due(c.strain(0, 0, 1, 99), 109);
        due(unpulled("f.", ".g").strain(0, 0, 0, 99), 20);
    }

    static void p15_itsOwnWeightIsTheLeastCost() {
        due(unpulled("f.", ".g").strain(0, 0, 0, 10), 20);
    }

    static void p15_oneMoreAndOneLess() {
        StrokeCuts c = unpulled("fg", "gg");
        due(c.strain(0, 0, 0, 9), 19);
        due(c.strain(0, 0, 0, 11), 21);
        due(c.strain(0, 0, 0, 1), 11);
    }

    static void p15_linksTwoAndThreeTakeTheWholeWeight() {
        StrokeCuts c = unpulled("fg", "gg");
        c.sets(5, 8);
        due(c.strain(0, 0, 2, 0), 20);
        due(c.strain(0, 0, 2, 7), 27);
        due(c.strain(0, 0, 2, 99), 119);
        c = unpulled("gf", "gg");
        c.sets(5, 8);
        due(c.strain(1, 0, 3, 0), 20);
        due(c.strain(1, 0, 3, 7), 27);
        due(c.strain(1, 0, 3, 99), 119);
    }

    static void p15_aLinkNobodyCutsDoesNotMatter() {
        StrokeCuts c = unpulled("ff", "gg");
        due(c.strain(0, 0, 0, 0), 20);
        due(c.strain(0, 0, 0, 99), 20);
    }

    static void p15_weightOutsideIsBad() {
        Edges.bad(c -> c.strain(1, 1, 0, -1));
        Edges.bad(c -> c.strain(1, 1, 0, 100));
        for (int v : Edges.FAR_OUT) {
            Edges.bad(c -> c.strain(1, 1, 0, v));
        }
    }

    static void p15_dOutsideIsBad() {
        Edges.bad(c -> c.strain(1, 1, -1, 5));
        Edges.bad(c -> c.strain(1, 1, 4, 5));
        for (int v : Edges.FAR_OUT) {
            Edges.bad(c -> c.strain(1, 1, v, 5));
        }
    }

    static void p15_dotsOutsideAreBad() {
        Edges.bad(c -> c.strain(-1, 1, 0, 5));
        Edges.bad(c -> c.strain(4, 1, 0, 5));
        Edges.bad(c -> c.strain(1, -1, 0, 5));
        Edges.bad(c -> c.strain(1, 3, 0, 5));
        for (int v : Edges.FAR_OUT) {
            Edges.bad(c -> c.strain(v, 1, 0, 5));
            Edges.bad(c -> c.strain(1, v, 0, 5));
        }
    }

    static void p15_noLinkAtTheBorder() {
        StrokeCuts c = Edges.sized(3, 2);
        c.sets(5, 8);
        due(c.strain(2, 0, 0, 5), NONE);
        due(c.strain(0, 1, 1, 5), NONE);
        due(c.strain(2, 0, 2, 5), NONE);
        due(c.strain(0, 1, 2, 5), NONE);
        due(c.strain(0, 0, 3, 5), NONE);
        due(c.strain(1, 1, 3, 5), NONE);
        due(c.told(0), 0);
    }

    static void p15_noLinksTwoAndThreeWithNearFour() {
        StrokeCuts c = Edges.sized(3, 3);
        due(c.strain(1, 1, 2, 5), NONE);
        due(c.strain(1, 1, 3, 5), NONE);
        due(c.told(0), 0);
    }

    static void p15_aWrongWeightIsToldAheadOfNoLink() {
        Edges.bad(c -> c.strain(3, 2, 0, 100));
        Edges.bad(c -> c.strain(3, 2, 1, -1));
    }

    static void p15_changesNothing() {
        Edges.onlyAsks(c -> c.strain(1, 1, 0, 99));
        Edges.onlyAsks(c -> c.strain(1, 1, 2, 0));
        Edges.changesNothing(c -> c.strain(3, 2, 0, 5), NONE);
    }

    // ---- promise 16

    static void p16_allCutIt() {
        StrokeCuts c = unpulled("ff", "gg");
        due(c.tight(0, 0, 1), 2);
        due(c.tight(1, 0, 1), 2);
    }

    static void p16_allCutItWithItsOtherDotIn() {
        StrokeCuts c = unpulled("gg", "ff");
        due(c.tight(0, 0, 1), 2);
        due(c.tight(1, 0, 1), 2);
        due(unpulled("gf", "gf").tight(0, 0, 0), 2);
    }

    static void p16_someCutIt() {
        StrokeCuts c = unpulled("f.", ".g");
        due(c.tight(0, 0, 0), 1);
        due(c.tight(0, 0, 1), 1);
        due(c.tight(1, 0, 1), 1);
        due(c.tight(0, 1, 0), 1);
    }

    static void p16_someCutItWithItsOtherDotIn() {
        StrokeCuts c = unpulled("g.", ".f");
        due(c.tight(0, 0, 0), 1);
        due(c.tight(0, 0, 1), 1);
        due(c.tight(1, 0, 1), 1);
        due(c.tight(0, 1, 0), 1);
    }

    static void p16_noneCutIt() {
        StrokeCuts c = unpulled("ff", "gg");
        due(c.tight(0, 0, 0), 0);
        due(c.tight(0, 1, 0), 0);
    }

    static void p16_noneCutItThoughBothDotsAreInSome() {
        StrokeCuts c = unpulled("f.g", "f.g");
        due(c.sure(1, 0), 2);
        due(c.sure(1, 1), 2);
        due(c.tight(1, 0, 1), 0);
        due(c.tight(0, 0, 0), 1);
        due(c.tight(1, 0, 0), 1);
        c = unpulled("...", "...");
        due(c.tight(0, 0, 0), 0);
        due(c.tight(0, 0, 1), 0);
    }

    static void p16_linksTwoAndThree() {
        StrokeCuts c = unpulled("f.", ".g");
        due(c.tight(0, 0, 2), NONE);
        due(c.tight(1, 0, 3), NONE);
        c.sets(5, 8);
        due(c.tight(0, 0, 2), 2);
        // {0}, {0, 1, 2} cost 25, {0, 1} and {0, 2} 30
        due(c.tight(1, 0, 3), 0);
        c = unpulled("gf", "..");
        c.sets(5, 8);
        due(c.tight(1, 0, 3), 1);
    }

    static void p16_noLinkAtTheBorder() {
        StrokeCuts c = Edges.sized(3, 2);
        c.sets(5, 8);
        due(c.tight(2, 0, 0), NONE);
        due(c.tight(0, 1, 1), NONE);
        due(c.tight(2, 0, 2), NONE);
        due(c.tight(0, 1, 2), NONE);
        due(c.tight(0, 0, 3), NONE);
        due(c.tight(1, 1, 3), NONE);
        due(c.told(0), 0);
    }

    static void p16_dOutsideIsBad() {
        Edges.bad(c -> c.tight(1, 1, -1));
        Edges.bad(c -> c.tight(1, 1, 4));
        for (int v : Edges.FAR_OUT) {
            Edges.bad(c -> c.tight(1, 1, v));
        }
    }

    static void p16_dotsOutsideAreBad() {
        Edges.bad(c -> c.tight(-1, 1, 0));
        Edges.bad(c -> c.tight(4, 1, 0));
        Edges.bad(c -> c.tight(1, -1, 0));
        Edges.bad(c -> c.tight(1, 3, 0));
        for (int v : Edges.FAR_OUT) {
            Edges.bad(c -> c.tight(v, 1, 0));
            Edges.bad(c -> c.tight(1, v, 0));
        }
    }

    static void p16_changesNothing() {
        Edges.changesNothing(c -> c.tight(0, 0, 2), 0);
        Edges.changesNothing(c -> c.tight(3, 2, 2), NONE);
    }

    // ---- promise 17

    static void p17_theEmptySet() {
        due(new StrokeCuts().costs(0), 16 * 9);
    }

    static void p17_allDots() {
        due(new StrokeCuts().costs(65535), 0);
        due(Edges.sized(2, 2).costs(15), 0);
        due(Edges.sized(6, 6).costs(ALL_36), 0);
    }

    static void p17_aMissingFigureIsNo() {
        StrokeCuts c = new StrokeCuts();
        c.mark(3, 3, 1);
        due(c.costs(0), NO);
        due(c.costs(32767), NO);
        due(c.costs(1L << 15), 20 + 15 * 9);
        due(c.told(1), 2);
        due(c.told(0), 0);
    }

    static void p17_aGroundWithinIsNo() {
        StrokeCuts c = new StrokeCuts();
        c.mark(3, 3, 2);
        due(c.costs(65535), NO);
        due(c.costs(1L << 15), NO);
        due(c.costs(32767), 20 + 9);
        due(c.told(1), 2);
        due(c.told(0), 0);
    }

    static void p17_noChangesNothingElse() {
        Edges.refused(NO, c -> { }, c -> c.costs(0));
        Edges.refused(NO, c -> { }, c -> c.costs(4095));
    }

    static void p17_theBitBehindTheLastDotIsBad() {
        due(Edges.sized(2, 2).costs(16), BAD);
        due(new StrokeCuts().costs(65536), BAD);
        due(Edges.sized(6, 6).costs(1L << 36), BAD);
        Edges.bad(c -> c.costs(4096));
    }

    static void p17_theLastDotsBitCan() {
        due(Edges.sized(2, 2).costs(8), 20 + 27);
        due(Edges.sized(6, 6).costs(1L << 35), 20 + 35 * 9);
        due(Edges.sized(6, 6).costs(1L << 31), 30 + 35 * 9);
    }

    static void p17_theSignBitIsBad() {
        due(Edges.sized(6, 6).costs(Long.MIN_VALUE), BAD);
        Edges.bad(c -> c.costs(Long.MIN_VALUE));
        Edges.bad(c -> c.costs(-1));
        Edges.bad(c -> c.costs(Long.MAX_VALUE));
    }

    static void p17_bitsAboveThirtyOneAreNotLost() {
        due(Edges.sized(2, 2).costs(1L << 32), BAD);
        due(Edges.sized(2, 2).costs((1L << 32) + 15), BAD);
        due(Edges.sized(6, 6).costs(1L << 32), 30 + 35 * 9);
    }

    static void p17_bitsOfAGreaterPictureAreBadInASmallerOne() {
        StrokeCuts c = Edges.sized(6, 6);
        due(c.costs(1L << 20), 40 + 35 * 9);
        c.picture(5, 4);
        due(c.costs(1L << 20), BAD);
        due(c.costs(1L << 19), 20 + 19 * 9);
    }

    static void p17_badIsToldAheadOfNo() {
        Edges.bad(c -> c.costs(1L << 40));
        StrokeCuts c = Edges.figure("f.", "..");
        due(c.costs(16), BAD);
        due(c.told(0), 1);
        due(c.told(1), 0);
    }

    static void p17_linksDoNotWrapAround() {
        StrokeCuts c = Edges.sized(3, 2);
        due(c.costs(1 << 2), 20 + 5 * 9);
        due(c.costs(1 << 3), 20 + 5 * 9);
        due(c.costs(1 << 2 | 1 << 3), 40 + 4 * 9);
        c.sets(5, 8);
        due(c.costs(1 << 2), 25 + 5 * 9);
        due(c.costs(1 << 3), 25 + 5 * 9);
        due(c.costs(1), 25 + 5 * 9);
        due(c.costs(1 << 5), 25 + 5 * 9);
        due(c.costs(1 << 1), 30 + 10 + 5 * 9);
    }

    static void p17_noSetCostsLessThanTheLeastCost() {
        StrokeCuts c = Edges.shaded("047", "391");
        c.sets(5, 8);
        int least = c.cost(), found = Integer.MAX_VALUE;
        for (long set = 0; set < 64; set++) {
            found = Math.min(found, c.costs(set));
        }
        due(found, least);
    }

    static void p17_changesNothing() {
        Edges.changesNothing(c -> c.costs(c.side(0)) - c.cost(), 0);
        Edges.onlyAsks(c -> c.costs(33));
    }
}
