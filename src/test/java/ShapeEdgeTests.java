/** Boundary cases of promise 18 and of the terms it stands on: pieces, holes, edges. */
public final class ShapeEdgeTests {
    private static final int NONE = Edges.NONE;
    private static final int DOTS = 0, PIECES = 1, HOLES = 2, EDGES = 3;

    public static void main(String[] args) {
        Edges.runAll(ShapeEdgeTests.class);
    }

    private static void shapeDue(StrokeCuts c, int what, int want) {
        Edges.due(c.shape(what), want);
    }

    private static void bordersDue(StrokeCuts c, int leastX, int leastY, int greatestX, int greatestY) {
        shapeDue(c, 4, leastX);
        shapeDue(c, 5, leastY);
        shapeDue(c, 6, greatestX);
        shapeDue(c, 7, greatestY);
    }

    static void p18_whatOutsideIsBad() {
        Edges.bad(c -> c.shape(-1));
        Edges.bad(c -> c.shape(8));
        for (int v : Edges.FAR_OUT) {
            Edges.bad(c -> c.shape(v));
        }
    }

    static void p18_changesNothing() {
        for (int what = 0; what < 8; what++) {
            int which = what;
            Edges.onlyAsks(c -> c.shape(which));
        }
    }

    static void p18_isOfTheLeastOneNotOfTheGreatest() {
        StrokeCuts c = Edges.sized(3, 3);
        c.sets(2, 0);
        c.mark(0, 0, 1);
        c.mark(2, 2, 2);
        shapeDue(c, DOTS, 1);
        shapeDue(c, EDGES, 4);
        bordersDue(c, 0, 0, 0, 0);
    }

    static void p18_noDot() {
        StrokeCuts c = Edges.figure("...", "...", "...");
        shapeDue(c, DOTS, 0);
        shapeDue(c, PIECES, 0);
        shapeDue(c, HOLES, 0);
        shapeDue(c, EDGES, 0);
    }

    static void p18_noDotHasNoBorders() {
        StrokeCuts c = Edges.figure("...", "...", "...");
        bordersDue(c, NONE, NONE, NONE, NONE);
        Edges.due(c.told(0), 0);
        Edges.due(c.told(1), 0);
    }

    static void p18_allDots() {
        StrokeCuts c = Edges.sized(6, 6);
        shapeDue(c, DOTS, 36);
        shapeDue(c, PIECES, 1);
        shapeDue(c, HOLES, 0);
        shapeDue(c, EDGES, 24);
        bordersDue(c, 0, 0, 5, 5);
    }

    static void p18_oneDot() {
        StrokeCuts c = Edges.figure("....", "..f.", "....");
        shapeDue(c, DOTS, 1);
        shapeDue(c, PIECES, 1);
        shapeDue(c, HOLES, 0);
        shapeDue(c, EDGES, 4);
        bordersDue(c, 2, 1, 2, 1);
    }

    static void p18_oneDotInEachCorner() {
        bordersDue(Edges.figure("f....", ".....", "....."), 0, 0, 0, 0);
        bordersDue(Edges.figure("....f", ".....", "....."), 4, 0, 4, 0);
        bordersDue(Edges.figure(".....", ".....", "f...."), 0, 2, 0, 2);
        bordersDue(Edges.figure(".....", ".....", "....f"), 4, 2, 4, 2);
    }

    static void p18_bordersOfTwoDots() {
        bordersDue(Edges.figure("....", "...f", ".f..", "...."), 1, 1, 3, 2);
        bordersDue(Edges.figure(".f....", "......", "....f."), 1, 0, 4, 2);
    }

    static void p18_piecesHangTogetherBesideAndAbove() {
        shapeDue(Edges.figure("ff.", ".f.", ".ff"), PIECES, 1);
        shapeDue(Edges.figure("fff", "..f", "fff", "f..", "fff"), PIECES, 1);
    }

    static void p18_piecesHangTogetherByWaysUpAndToTheLeft() {
        shapeDue(Edges.figure("f.f", "f.f", "fff"), PIECES, 1);
        shapeDue(Edges.figure("..f", ".ff", "ff."), PIECES, 1);
        shapeDue(Edges.figure(".fff", ".f.f", "ff.f", "...f", "ffff"), PIECES, 1);
    }

    static void p18_piecesDoNotHangTogetherByCorners() {
        shapeDue(Edges.figure("f..", ".f.", "..f"), PIECES, 3);
        shapeDue(Edges.figure("..f", ".f.", "f.."), PIECES, 3);
    }

    static void p18_nearEightDoesNotJoinPieces() {
        StrokeCuts c = Edges.figure("f..", ".f.", "..f");
        c.sets(5, 8);
        shapeDue(c, PIECES, 3);
    }

    static void p18_piecesDoNotWrapAround() {
        shapeDue(Edges.figure("..f", "f.."), PIECES, 2);
        shapeDue(Edges.figure("f..", "..f"), PIECES, 2);
        shapeDue(Edges.figure("f.f", "f.f"), PIECES, 2);
        shapeDue(Edges.figure("fff", "...", "fff"), PIECES, 2);
    }

    static void p18_theMostPieces() {
        shapeDue(Edges.figure("f.f.f.", ".f.f.f", "f.f.f.", ".f.f.f", "f.f.f.", ".f.f.f"), PIECES, 18);
    }

    static void p18_theLongestPiece() {
        StrokeCuts c = Edges.figure("ffffff", ".....f", "ffffff", "f.....", "ffffff", ".....f");
        shapeDue(c, PIECES, 1);
        shapeDue(c, DOTS, 21);
    }

    static void p18_aHoleOfOneDot() {
        shapeDue(Edges.figure("fff", "f.f", "fff"), HOLES, 1);
    }

    static void p18_aHoleThatGoesUpAndDown() {
        shapeDue(Edges.figure("fffff", "f.f.f", "f...f", "fffff"), HOLES, 1);
        shapeDue(Edges.figure("fffff", "f...f", "f.f.f", "fffff"), HOLES, 1);
    }

    static void p18_aHoleWhoseCornersAreOpen() {
        StrokeCuts c = Edges.figure(".f.", "f.f", ".f.");
        shapeDue(c, HOLES, 1);
        shapeDue(c, PIECES, 4);
    }

    static void p18_nearEightDoesNotOpenHoles() {
        StrokeCuts c = Edges.figure(".f.", "f.f", ".f.");
        c.sets(5, 8);
        shapeDue(c, HOLES, 1);
    }

    static void p18_aGapAtEachBorderIsNoHole() {
        shapeDue(Edges.figure("f.f", "fff", "fff"), HOLES, 0);
        shapeDue(Edges.figure("fff", "fff", "f.f"), HOLES, 0);
        shapeDue(Edges.figure("fff", ".ff", "fff"), HOLES, 0);
        shapeDue(Edges.figure("fff", "ff.", "fff"), HOLES, 0);
    }

    static void p18_aGapThatReachesTheBorderIsNoHole() {
        shapeDue(Edges.figure("ffff", "f..f", "ff.f", "ff.f"), HOLES, 0);
        shapeDue(Edges.figure("ffff", "f...", "ffff", "ffff"), HOLES, 0);
    }

    static void p18_aGapInACornerIsNoHole() {
        shapeDue(Edges.figure(".ff", "fff", "ff."), HOLES, 0);
    }

    static void p18_holesThatTouchByCornersAreTwo() {
        shapeDue(Edges.figure("ffff", "f.ff", "ff.f", "ffff"), HOLES, 2);
        shapeDue(Edges.figure("ffff", "f..f", "ffff", "ffff"), HOLES, 1);
    }

    static void p18_holesInOneRowAndInOneColumn() {
        shapeDue(Edges.figure("fffff", "f.f.f", "fffff"), HOLES, 2);
        shapeDue(Edges.figure("fff", "f.f", "fff", "f.f", "fff"), HOLES, 2);
    }

    static void p18_aPieceWithinAHole() {
        StrokeCuts c = Edges.figure("fffff", "f...f", "f.f.f", "f...f", "fffff");
        shapeDue(c, PIECES, 2);
        shapeDue(c, HOLES, 1);
    }

    static void p18_theMostHoles() {
        StrokeCuts c = Edges.figure("ffffff", "f.f.ff", "ff.f.f", "f.f.ff", "ff.f.f", "ffffff");
        shapeDue(c, HOLES, 8);
    }

    static void p18_theGreatestHole() {
        StrokeCuts c = Edges.figure("ffffff", "f....f", "f....f", "f....f", "f....f", "ffffff");
        shapeDue(c, HOLES, 1);
        shapeDue(c, DOTS, 20);
    }

    static void p18_twoDotsWideThereIsNoHole() {
        shapeDue(Edges.figure("ff", ".f", "f.", "ff"), HOLES, 0);
        shapeDue(Edges.figure("ff", "ff"), HOLES, 0);
    }

    static void p18_edgesAtTheBorderCount() {
        shapeDue(Edges.figure("f..", "...", "..."), EDGES, 4);
        shapeDue(Edges.figure("ff", "ff"), EDGES, 8);
        shapeDue(Edges.sized(6, 2), EDGES, 16);
    }

    static void p18_edgesOfAHoleCount() {
        shapeDue(Edges.figure("fff", "f.f", "fff"), EDGES, 16);
    }

    static void p18_edgesBetweenDotsOfItDoNotCount() {
        shapeDue(Edges.figure("....", ".ff.", "...."), EDGES, 6);
        shapeDue(Edges.figure("...", ".f.", ".f."), EDGES, 6);
    }

    static void p18_edgesDoNotWrapAround() {
        shapeDue(Edges.figure("..f", "f.."), EDGES, 8);
        shapeDue(Edges.figure("f.f", "..."), EDGES, 8);
        shapeDue(Edges.figure("f..", "...", "f.."), EDGES, 8);
    }

    static void p18_nearEightDoesNotMatterForEdges() {
        StrokeCuts c = Edges.figure("f..", ".f.", "...");
        c.sets(5, 8);
        shapeDue(c, EDGES, 8);
    }

    static void p18_theMostEdges() {
        shapeDue(Edges.figure("f.f.f.", ".f.f.f", "f.f.f.", ".f.f.f", "f.f.f.", ".f.f.f"), EDGES, 72);
    }
}
