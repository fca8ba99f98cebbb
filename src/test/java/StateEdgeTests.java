/** Boundary cases of promises 25 to 27 and of the terms they stand on: states, what is refused, what is told. */
public final class StateEdgeTests {
    private static final int BAD = Edges.BAD, NO = Edges.NO;

    public static void main(String[] args) {
        Edges.runAll(StateEdgeTests.class);
    }

    private static void due(long got, long want) {
        Edges.due(got, want);
    }

    private static void goAllBack(StrokeCuts c) {
        for (int i = c.told(12); i > 0; i--) {
            due(c.back(), i - 1);
        }
    }

    // ---- promise 25

    static void p25_noStateIsNo() {
        Edges.refused(NO, StateEdgeTests::goAllBack, StrokeCuts::back);
        due(new StrokeCuts().back(), NO);
    }

    static void p25_noCountsEachTime() {
        StrokeCuts c = new StrokeCuts();
        due(c.back(), NO);
        due(c.back(), NO);
        due(c.told(1), 2);
        due(c.told(0), 0);
        due(c.told(12), 0);
    }

    static void p25_oneState() {
        StrokeCuts c = new StrokeCuts();
        c.shade(0, 0, 5);
        due(c.back(), 0);
        due(c.dot(0, 0, 0), 0);
        due(c.back(), NO);
    }

    private static StrokeCuts shadedOneByOne(int calls) {
        StrokeCuts c = new StrokeCuts();
        for (int i = 1; i <= calls; i++) {
            c.shade(0, 0, i % 10);
        }
        return c;
    }

    static void p25_eightStatesAreTheMost() {
        StrokeCuts c = shadedOneByOne(8);
        due(c.told(12), 8);
        for (int i = 7; i >= 0; i--) {
            due(c.back(), i);
            due(c.dot(0, 0, 0), i);
        }
        due(c.back(), NO);
    }

    static void p25_theNinthLosesTheOldest() {
        StrokeCuts c = shadedOneByOne(9);
        due(c.told(12), 8);
        for (int i = 7; i >= 0; i--) {
            due(c.back(), i);
            due(c.dot(0, 0, 0), i + 1);
        }
        due(c.back(), NO);
        due(c.dot(0, 0, 0), 1);
    }

    static void p25_manyLostStates() {
        for (int calls = 10; calls < 40; calls++) {
            StrokeCuts c = shadedOneByOne(calls);
            due(c.told(12), 8);
            for (int i = 1; i <= 8; i++) {
                due(c.back(), 8 - i);
                due(c.dot(0, 0, 0), (calls - i) % 10);
            }
            due(c.back(), NO);
        }
    }

    static void p25_whatWasTakenBackIsGone() {
        StrokeCuts c = shadedOneByOne(3);
        due(c.back(), 2);
        c.shade(0, 0, 9);
        due(c.told(12), 3);
        due(c.back(), 2);
        due(c.dot(0, 0, 0), 2);
        due(c.back(), 1);
        due(c.dot(0, 0, 0), 1);
    }

    static void p25_backAndOnAroundTheMost() {
        StrokeCuts c = shadedOneByOne(9);
        due(c.back(), 7);
        c.shade(0, 0, 5);
        due(c.told(12), 8);
        c.shade(0, 0, 6);
        due(c.told(12), 8);
        int[] want = {5, 8, 7, 6, 5, 4, 3, 2};
        for (int i = 0; i < 8; i++) {
            due(c.back(), 7 - i);
            due(c.dot(0, 0, 0), want[i]);
        }
        due(c.back(), NO);
    }

    static void p25_backLeavesNoState() {
        StrokeCuts c = shadedOneByOne(2);
        due(c.back(), 1);
        due(c.told(12), 1);
        due(c.back(), 0);
        due(c.told(12), 0);
    }

    static void p25_bringsTheSizeOfThePicture() {
        StrokeCuts c = Edges.sized(6, 2);
        c.shade(5, 1, 8);
        c.mark(5, 0, 2);
        c.picture(2, 6);
        due(c.dot(5, 1, 0), BAD);
        due(c.back(), 3);
        due(c.told(3), 6);
        due(c.told(4), 2);
        Edges.shadesDue(c, "000000", "000008");
        Edges.marksDue(c, ".....g", "......");
    }

    static void p25_bringsAllShadesAndMarksOfTheGreatestPicture() {
        StrokeCuts c = Edges.sized(6, 6);
        c.blot(0, 0, 10, 9);
        c.stroke(1, 5, 0, 5, 5);
        c.stroke(2, 0, 5, 4, 5);
        c.picture(2, 2);
        c.back();
        Edges.shadesDue(c, "999999", "999999", "999999", "999999", "999999", "999999");
        Edges.marksDue(c, ".....f", ".....f", ".....f", ".....f", ".....f", "gggggf");
    }

    static void p25_bringsEachSetting() {
        int[] first = {10, 2, 1, 0, 9, 4}, other = {50, 9, 9, 9, 0, 8};
        for (int what = 0; what < 6; what++) {
            StrokeCuts c = new StrokeCuts();
            c.sets(what, other[what]);
            due(c.told(5 + what), other[what]);
            due(c.back(), 0);
            due(c.told(5 + what), first[what]);
        }
    }

    static void p25_theTextIsNoPartOfAState() {
        StrokeCuts c = new StrokeCuts();
        c.shade(0, 0, 1);
        Edges.typeAll(c, "f11;");
        due(c.back(), 0);
        due(c.told(11), 4);
        due(c.does(), 1);
        due(c.clear(), 4);
        due(c.back(), 0);
        due(c.told(11), 0);
    }

    static void p25_howOftenRefusedIsNoPartOfAState() {
        StrokeCuts c = new StrokeCuts();
        c.shade(0, 0, 1);
        c.shade(9, 9, 9);
        c.mark(0, 0, 1);
        c.costs(0);
        due(c.back(), 1);
        due(c.back(), 0);
        due(c.told(0), 1);
        due(c.told(1), 1);
    }

    static void p25_aRefusedCallLeavesNoState() {
        StrokeCuts c = new StrokeCuts();
        c.picture(1, 1);
        c.shade(0, 0, 10);
        c.draws(-1, 1);
        c.blot(0, 0, 11, 1);
        c.mark(0, 0, 3);
        c.stroke(3, 0, 0, 1, 1);
        c.sets(6, 1);
        c.learns(0);
        due(c.told(0), 8);
        due(c.told(12), 0);
        due(c.back(), NO);
    }

    static void p25_aFaultLeavesNoState() {
        StrokeCuts c = new StrokeCuts();
        Edges.typeAll(c, "f00;q");
        due(c.does(), -14);
        due(c.told(12), 0);
        due(c.back(), NO);
        due(c.told(0), 0);
        due(c.told(1), 1);
    }

    static void p25_eachCallToldSLeavesOne() {
        StrokeCuts c = new StrokeCuts();
        Edges.typeAll(c, "f33;");
        c.picture(4, 4);
        due(c.told(12), 1);
        c.shade(0, 0, 0);
        due(c.told(12), 2);
        c.draws(1, 1);
        due(c.told(12), 3);
        c.blot(0, 0, 0, 0);
        due(c.told(12), 4);
        c.mark(0, 0, 0);
        due(c.told(12), 5);
        c.stroke(0, 0, 0, 0, 0);
        due(c.told(12), 6);
        c.sets(0, 10);
        due(c.told(12), 7);
        goAllBack(c);
        c.learns(1);
        due(c.told(12), 1);
        c.keeps();
        due(c.told(12), 2);
        c.turns();
        due(c.told(12), 3);
        c.does();
        due(c.told(12), 4);
    }

    static void p25_noOtherCallLeavesOne() {
        StrokeCuts c = new StrokeCuts();
        c.dot(0, 0, 0);
        c.link(0, 0, 0);
        c.cost();
        c.side(0);
        c.sure(0, 0);
        c.were(0, 0, 1);
        c.strain(0, 0, 0, 1);
        c.tight(0, 0, 0);
        c.costs(0);
        c.shape(0);
        c.type('f');
        c.clear();
        c.told(0);
        c.digest();
        due(c.told(12), 0);
        due(c.back(), NO);
    }

    // ---- promise 26

    static void p26_whatOutsideIsBad() {
        Edges.bad(c -> c.told(-1));
        Edges.bad(c -> c.told(13));
        for (int v : Edges.FAR_OUT) {
            Edges.bad(c -> c.told(v));
        }
    }

    static void p26_aBadQuestionCountsItself() {
        StrokeCuts c = new StrokeCuts();
        due(c.told(13), BAD);
        due(c.told(0), 1);
        due(c.told(-1), BAD);
        due(c.told(0), 2);
    }

    static void p26_eachNumberHasItsPlace() {
        StrokeCuts c = Edges.sized(5, 3);
        int[] values = {21, 3, 4, 5, 6, 8};
        for (int what = 0; what < 6; what++) {
            c.sets(what, values[what]);
        }
        c.back();
        c.sets(5, 8);
        for (int i = 0; i < 102; i++) {
            c.type(' ');
        }
        c.mark(0, 0, 1);
        c.costs(0);
        c.picture(1, 1);
        c.picture(1, 1);
        c.picture(1, 1);
        int[] want = {3, 1, 2, 5, 3, 21, 3, 4, 5, 6, 8, 100, 8};
        for (int what = 0; what < 13; what++) {
            due(c.told(what), want[what]);
        }
    }

    static void p26_noneIsNotRefused() {
        StrokeCuts c = Edges.figure("..", "..");
        due(c.link(1, 1, 0), Edges.NONE);
        due(c.strain(1, 1, 0, 5), Edges.NONE);
        due(c.tight(1, 1, 0), Edges.NONE);
        due(c.shape(4), Edges.NONE);
        for (int what = 0; what < 3; what++) {
            due(c.told(what), 0);
        }
    }

    static void p26_aFaultDoesNotCount() {
        StrokeCuts c = new StrokeCuts();
        due(c.does(), -10);
        c.type('q');
        due(c.does(), -10);
        for (int what = 0; what < 3; what++) {
            due(c.told(what), 0);
        }
    }

    static void p26_eachRefusedCallCountsOnce() {
        StrokeCuts c = new StrokeCuts();
        c.picture(0, 0);
        c.shade(9, 9, 99);
        c.draws(-1, 0);
        c.blot(9, 9, 99, 99);
        c.mark(9, 9, 9);
        c.stroke(9, 9, 9, 9, 9);
        c.sets(9, 99);
        c.dot(9, 9, 9);
        c.link(9, 9, 9);
        c.side(9);
        c.sure(9, 9);
        c.were(9, 9, 9);
        c.strain(9, 9, 9, 999);
        c.tight(9, 9, 9);
        c.costs(-1);
        c.shape(9);
        c.learns(99);
        c.type(999);
        c.told(99);
        due(c.told(0), 19);
        due(c.told(1), 0);
        due(c.told(2), 0);
    }

    static void p26_changesNothing() {
        int[] want = {1, 0, 0, 4, 3, 20, 3, 2, 1, 8, 8, 4, 8};
        for (int what = 0; what < 13; what++) {
            int which = what;
            Edges.changesNothing(c -> c.told(which), want[what]);
        }
    }

    // ---- promise 27

    static void p27_ofANewObject() {
        due(new StrokeCuts().digest(), 5585966855782785726L);
    }

    static void p27_ofTheLeastAndTheGreatestPicture() {
        due(Edges.sized(2, 2).digest(), -8638579236777022371L);
        due(Edges.sized(6, 6).digest(), -8979560035517206051L);
    }

    static void p27_goesByAllThatIsToldAndWrapsAround() {
        StrokeCuts c = Edges.busy();
        c.type(200);
        c.costs(0);
        long h = 1744;
        for (int what = 0; what < 13; what++) {
            h = 31 * h + c.told(what);
        }
        for (int k = 0; k < 12; k++) {
            h = 31 * (31 * h + c.dot(k % 4, k / 4, 0)) + c.dot(k % 4, k / 4, 1);
        }
        h = 31 * (31 * (31 * h + c.cost()) + c.side(0)) + c.side(1);
        due(c.digest(), h);
    }

    static void p27_leastAndGreatestInTurn() {
        // the two differ: 1 and 7
        StrokeCuts c = Edges.sized(2, 2);
        c.sets(2, 0);
        c.mark(0, 0, 1);
        c.mark(1, 1, 2);
        long h = 1744;
        long[] all = {0, 0, 0, 2, 2, 10, 2, 0, 0, 9, 4, 0, 4, 0, 1, 0, 0, 0, 0, 0, 2, 20, 1, 7};
        for (long v : all) {
            h = 31 * h + v;
        }
        due(c.digest(), h);
    }

    static void p27_changesNothing() {
        Edges.onlyAsks(c -> c.digest());
        StrokeCuts c = Edges.busy();
        due(c.digest() - c.digest(), 0);
    }
}
