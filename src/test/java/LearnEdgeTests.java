/** Boundary cases of promises 19 to 21 and of the terms they stand on: learning, keeping, turning. */
public final class LearnEdgeTests {
    public static void main(String[] args) {
        Edges.runAll(LearnEdgeTests.class);
    }

    private static void due(long got, long want) {
        Edges.due(got, want);
    }

    private static void tonesDue(StrokeCuts c, int figure, int ground) {
        due(c.told(8), figure);
        due(c.told(9), ground);
    }

    private static void setTones(StrokeCuts c, int figure, int ground) {
        c.sets(3, figure);
        c.sets(4, ground);
    }

    /**
     * Tones 3 and 2 hold all but the corner, whose mean is 2; tones 2 and 2 pull nothing, so that the least one is its marked
     * dot alone, of shade 3; so rounds go on for ever.
     */
    private static StrokeCuts restless() {
        StrokeCuts c = Edges.shaded("233", "313");
        c.mark(0, 0, 2);
        c.mark(2, 0, 1);
        c.sets(0, 1);
        c.sets(1, 0);
        setTones(c, 3, 2);
        return c;
    }

    /** Links hardly hold, tones pull: each dot goes where its shade is nearer. */
    private static StrokeCuts loose(int figure, int ground, String... rows) {
        StrokeCuts c = Edges.shaded(rows);
        c.sets(0, 1);
        c.sets(2, 9);
        setTones(c, figure, ground);
        return c;
    }

    // ---- promise 19

    static void p19_noRoundIsBad() {
        Edges.bad(c -> c.learns(0));
    }

    static void p19_twentyOneRoundsAreBad() {
        Edges.bad(c -> c.learns(21));
    }

    static void p19_roundsFarOutAreBad() {
        Edges.bad(c -> c.learns(-1));
        for (int v : Edges.FAR_OUT) {
            Edges.bad(c -> c.learns(v));
        }
    }

    static void p19_oneRoundIsTheLeast() {
        StrokeCuts c = restless();
        due(c.learns(1), 1);
        tonesDue(c, 2, 2);
        due(c.learns(1), 1);
        tonesDue(c, 3, 2);
    }

    static void p19_twentyRoundsAreTheMost() {
        StrokeCuts c = restless();
        due(c.learns(20), 20);
        tonesDue(c, 3, 2);
    }

    static void p19_asManyRoundsAsTold() {
        StrokeCuts c = restless();
        due(c.learns(19), 19);
        tonesDue(c, 2, 2);
        due(c.learns(2), 2);
        tonesDue(c, 2, 2);
        due(c.learns(7), 7);
        tonesDue(c, 3, 2);
    }

    static void p19_fewerIfARoundChangesNoTone() {
        StrokeCuts c = loose(4, 9, "06", "09");
        due(c.learns(20), 2);
        tonesDue(c, 0, 7);
    }

    static void p19_noRoundChangesATone() {
        StrokeCuts c = loose(0, 7, "06", "09");
        due(c.learns(1), 0);
        due(c.learns(20), 0);
        tonesDue(c, 0, 7);
    }

    static void p19_noFigureKeepsItsTone() {
        StrokeCuts c = Edges.shaded("22", "79");
        Edges.marks(c, "gg", "gg");
        due(c.learns(5), 1);
        tonesDue(c, 0, 5);
        c.sets(3, 6);
        due(c.learns(5), 0);
        tonesDue(c, 6, 5);
    }

    static void p19_noGroundKeepsItsTone() {
        StrokeCuts c = Edges.shaded("22", "79");
        Edges.marks(c, "ff", "ff");
        due(c.learns(5), 1);
        tonesDue(c, 5, 9);
        c.sets(4, 1);
        due(c.learns(5), 0);
        tonesDue(c, 5, 1);
    }

    static void p19_sharesAreCut() {
        StrokeCuts c = Edges.shaded("12", "89");
        Edges.marks(c, "ff", "gg");
        due(c.learns(1), 1);
        tonesDue(c, 1, 8);
        c = Edges.shaded("099", "001");
        Edges.marks(c, "fff", "ggg");
        due(c.learns(1), 1);
        tonesDue(c, 6, 0);
        c.shade(0, 0, 8);
        due(c.learns(1), 1);
        tonesDue(c, 8, 0);
    }

    static void p19_bothTonesByTheLeastOneAheadOfTheRound() {
        // 0, 6, 0 are in: mean 2; by tone 2 the 6 would go out, and the ground's mean would be 7, not 9
        StrokeCuts c = loose(4, 9, "06", "09");
        due(c.side(0), 7);
        due(c.learns(1), 1);
        tonesDue(c, 2, 9);
        due(c.learns(1), 1);
        tonesDue(c, 0, 7);
    }

    static void p19_byTheLeastOneNotByTheGreatest() {
        StrokeCuts c = restless();
        setTones(c, 2, 2);
        due(c.side(0), 4);
        due(c.side(1), 62);
        due(c.learns(1), 1);
        tonesDue(c, 3, 2);
    }

    static void p19_oneToneAloneIsAChange() {
        StrokeCuts c = Edges.shaded("22", "77");
        Edges.marks(c, "ff", "gg");
        setTones(c, 2, 0);
        due(c.learns(3), 1);
        tonesDue(c, 2, 7);
        setTones(c, 0, 7);
        due(c.learns(3), 1);
        tonesDue(c, 2, 7);
    }

    static void p19_tonesOfNoughtAndNine() {
        StrokeCuts c = Edges.shaded("00", "99");
        Edges.marks(c, "ff", "gg");
        setTones(c, 5, 5);
        due(c.learns(20), 1);
        tonesDue(c, 0, 9);
    }

    static void p19_shadesAndMarksStay() {
        StrokeCuts c = restless();
        c.learns(3);
        Edges.shadesDue(c, "233", "313");
        Edges.marksDue(c, "g.f", "...");
    }

    static void p19_leavesOneStateForAllRounds() {
        StrokeCuts c = restless();
        c.back();
        due(c.told(12), 7);
        c.learns(20);
        due(c.told(12), 8);
        Edges.leavesState(b -> b.learns(20));
    }

    static void p19_leavesAStateIfNoRoundChangedATone() {
        StrokeCuts c = Edges.sized(2, 2);
        due(c.learns(20), 0);
        due(c.told(12), 2);
        due(c.back(), 1);
    }

    // ---- promise 20

    static void p20_noDotHasAMark() {
        StrokeCuts c = Edges.shaded("00", "99");
        due(c.keeps(), 4);
        Edges.marksDue(c, "ff", "gg");
    }

    static void p20_everyDotHasAMark() {
        StrokeCuts c = Edges.figure("f.", ".f");
        due(c.keeps(), 0);
        Edges.marksDue(c, "fg", "gf");
    }

    static void p20_marksThatAreThereStay() {
        StrokeCuts c = Edges.shaded("00", "99");
        c.mark(0, 0, 2);
        c.mark(1, 1, 1);
        c.sets(2, 0);
        due(c.keeps(), 2);
        due(c.dot(0, 0, 1), 2);
        due(c.dot(1, 1, 1), 1);
    }

    static void p20_dotsInSomeGetGround() {
        StrokeCuts c = Edges.sized(3, 3);
        c.sets(2, 0);
        c.mark(0, 0, 1);
        c.mark(2, 2, 2);
        due(c.keeps(), 7);
        Edges.marksDue(c, "fgg", "ggg", "ggg");
    }

    static void p20_allInAndNoneIn() {
        StrokeCuts c = Edges.sized(6, 6);
        due(c.keeps(), 36);
        Edges.marksDue(c, "ffffff", "ffffff", "ffffff", "ffffff", "ffffff", "ffffff");
        c = Edges.shaded("99", "99");
        due(c.keeps(), 4);
        Edges.marksDue(c, "gg", "gg");
    }

    static void p20_theLeastCostStays() {
        StrokeCuts c = Edges.busy();
        int least = c.cost();
        long set = c.side(0);
        due(c.keeps(), 9);
        due(c.cost(), least);
        due(c.side(0), set);
        due(c.side(1), set);
    }

    static void p20_leavesAState() {
        Edges.leavesState(StrokeCuts::keeps);
    }

    static void p20_leavesAStateIfNothingIsLeftToMark() {
        StrokeCuts c = Edges.figure("f.", "..");
        due(c.told(12), 5);
        due(c.keeps(), 0);
        due(c.told(12), 6);
    }

    // ---- promise 21

    static void p21_noDotIsMarked() {
        StrokeCuts c = new StrokeCuts();
        due(c.turns(), 0);
        tonesDue(c, 9, 0);
        Edges.marksDue(c, "....", "....", "....", "....");
    }

    static void p21_everyDotIsMarked() {
        StrokeCuts c = Edges.figure("ffffff", "......", "ffffff", "......", "ffffff", ".....f");
        due(c.turns(), 36);
        Edges.marksDue(c, "gggggg", "ffffff", "gggggg", "ffffff", "gggggg", "fffffg");
    }

    static void p21_unmarkedDotsStayUnmarked() {
        StrokeCuts c = Edges.busy();
        due(c.turns(), 3);
        Edges.marksDue(c, "g...", ".g.f", "....");
        tonesDue(c, 8, 1);
    }

    static void p21_twiceIsAsBefore() {
        StrokeCuts c = Edges.busy();
        due(c.turns(), 3);
        due(c.turns(), 3);
        Edges.marksDue(c, "f...", ".f.g", "....");
        tonesDue(c, 1, 8);
    }

    static void p21_equalTonesStay() {
        StrokeCuts c = new StrokeCuts();
        setTones(c, 4, 4);
        due(c.turns(), 0);
        tonesDue(c, 4, 4);
    }

    static void p21_shadesAndOtherSettingsStay() {
        StrokeCuts c = Edges.busy();
        c.turns();
        Edges.shadesDue(c, "7438", "8528", "9124");
        due(c.told(5), 20);
        due(c.told(6), 3);
        due(c.told(7), 2);
        due(c.told(10), 8);
    }

    static void p21_leastAndGreatestChangePlaces() {
        StrokeCuts c = Edges.sized(3, 3);
        c.sets(2, 0);
        c.mark(0, 0, 1);
        c.mark(2, 2, 2);
        due(c.turns(), 2);
        due(c.side(0), 256);
        due(c.side(1), 510);
    }

    static void p21_leavesAState() {
        Edges.leavesState(StrokeCuts::turns);
    }

    static void p21_leavesAStateIfNothingChangesToo() {
        StrokeCuts c = new StrokeCuts();
        setTones(c, 4, 4);
        due(c.turns(), 0);
        due(c.told(12), 3);
    }
}
