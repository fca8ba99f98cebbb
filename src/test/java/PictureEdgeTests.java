import java.math.BigInteger;

/** Boundary cases of promises 1 to 5 and of the terms they stand on: a new object, the picture, its dots and shades. */
public final class PictureEdgeTests {
    private static final int BAD = Edges.BAD, NO = Edges.NO;

    public static void main(String[] args) {
        Edges.runAll(PictureEdgeTests.class);
    }

    private static void due(long got, long want) {
        Edges.due(got, want);
    }

    // ---- promise 1

    static void p01_widthAndHeightAreFour() {
        StrokeCuts c = new StrokeCuts();
        due(c.told(3), 4);
        due(c.told(4), 4);
        due(c.dot(3, 3, 0), 0);
        due(c.dot(4, 3, 0), BAD);
        due(c.dot(3, 4, 0), BAD);
    }

    static void p01_allShadesAreNought() {
        Edges.shadesDue(new StrokeCuts(), "0000", "0000", "0000", "0000");
    }

    static void p01_noDotIsMarked() {
        Edges.marksDue(new StrokeCuts(), "....", "....", "....", "....");
    }

    static void p01_hardIsTen() {
        due(new StrokeCuts().told(5), 10);
    }

    static void p01_slopeIsTwo() {
        due(new StrokeCuts().told(6), 2);
    }

    static void p01_pullIsOne() {
        due(new StrokeCuts().told(7), 1);
    }

    static void p01_toneOfTheFigureIsNought() {
        due(new StrokeCuts().told(8), 0);
    }

    static void p01_toneOfTheGroundIsNine() {
        due(new StrokeCuts().told(9), 9);
    }

    static void p01_nearIsFour() {
        due(new StrokeCuts().told(10), 4);
    }

    static void p01_theTextIsEmpty() {
        StrokeCuts c = new StrokeCuts();
        due(c.told(11), 0);
        due(c.does(), -10);
        due(c.clear(), 0);
    }

    static void p01_thereIsNoState() {
        StrokeCuts c = new StrokeCuts();
        due(c.told(12), 0);
        due(c.back(), NO);
    }

    static void p01_nothingWasRefused() {
        StrokeCuts c = new StrokeCuts();
        due(c.told(0), 0);
        due(c.told(1), 0);
        due(c.told(2), 0);
    }

    static void p01_objectsShareNothing() {
        StrokeCuts c = new StrokeCuts(), other = new StrokeCuts();
        c.shade(0, 0, 9);
        c.mark(1, 1, 1);
        c.sets(0, 50);
        c.type('f');
        c.picture(9, 9);
        c.picture(6, 6);
        due(other.digest(), new StrokeCuts().digest());
    }

    // ---- promise 2

    static void p02_twoTimesTwoIsTheLeast() {
        StrokeCuts c = new StrokeCuts();
        due(c.picture(2, 2), 4);
        due(c.told(3), 2);
        due(c.told(4), 2);
    }

    static void p02_sixTimesSixIsTheGreatest() {
        StrokeCuts c = new StrokeCuts();
        due(c.picture(6, 6), 36);
        due(c.told(3), 6);
        due(c.told(4), 6);
        due(c.dot(5, 5, 0), 0);
    }

    static void p02_twoWideSixHigh() {
        StrokeCuts c = new StrokeCuts();
        due(c.picture(2, 6), 12);
        due(c.told(3), 2);
        due(c.told(4), 6);
        due(c.dot(1, 5, 0), 0);
        due(c.dot(2, 0, 0), BAD);
    }

    static void p02_sixWideTwoHigh() {
        StrokeCuts c = new StrokeCuts();
        due(c.picture(6, 2), 12);
        due(c.told(3), 6);
        due(c.told(4), 2);
        due(c.dot(5, 1, 0), 0);
        due(c.dot(0, 2, 0), BAD);
    }

    static void p02_widthOfOneIsBad() {
        Edges.bad(c -> c.picture(1, 4));
    }

    static void p02_heightOfOneIsBad() {
        Edges.bad(c -> c.picture(4, 1));
    }

    static void p02_widthOfSevenIsBad() {
        Edges.bad(c -> c.picture(7, 4));
    }

    static void p02_heightOfSevenIsBad() {
        Edges.bad(c -> c.picture(4, 7));
    }

    static void p02_sidesOfNoughtAndLessAreBad() {
        Edges.bad(c -> c.picture(0, 4));
        Edges.bad(c -> c.picture(4, 0));
        Edges.bad(c -> c.picture(-4, 4));
        Edges.bad(c -> c.picture(4, -4));
        Edges.bad(c -> c.picture(-4, -4));
    }

    static void p02_sidesFarOutAreBad() {
        for (int v : Edges.FAR_OUT) {
            Edges.bad(c -> c.picture(v, 4));
            Edges.bad(c -> c.picture(4, v));
        }
    }

    static void p02_bothSidesWrongCountOnce() {
        Edges.bad(c -> c.picture(1, 7));
    }

    static void p02_allShadesBecomeNought() {
        StrokeCuts c = Edges.busy();
        c.picture(4, 3);
        Edges.shadesDue(c, "0000", "0000", "0000");
    }

    static void p02_noMarkStays() {
        StrokeCuts c = Edges.busy();
        c.picture(4, 3);
        Edges.marksDue(c, "....", "....", "....");
    }

    static void p02_greaterPictureBehindASmallerOneIsBlankToo() {
        StrokeCuts c = Edges.sized(6, 6);
        c.blot(0, 0, 10, 7);
        for (int y = 0; y < 6; y++) {
            c.stroke(1, 0, y, 5, y);
        }
        c.picture(2, 2);
        c.picture(6, 6);
        Edges.shadesDue(c, "000000", "000000", "000000", "000000", "000000", "000000");
        Edges.marksDue(c, "......", "......", "......", "......", "......", "......");
    }

    static void p02_hardToNearStay() {
        StrokeCuts c = Edges.busy();
        c.picture(2, 2);
        int[] want = {20, 3, 2, 1, 8, 8};
        for (int what = 0; what < 6; what++) {
            due(c.told(5 + what), want[what]);
        }
    }

    static void p02_theTextStays() {
        StrokeCuts c = Edges.busy();
        c.picture(3, 2);
        due(c.told(11), 4);
        due(c.does(), 1);
        Edges.marksDue(c, "..g", "...");
    }

    static void p02_leavesAState() {
        Edges.leavesState(c -> c.picture(6, 2));
    }

    static void p02_leavesAStateForTheSameSizeToo() {
        Edges.leavesState(c -> c.picture(4, 3));
    }

    static void p02_numbersOfDotsGoByTheWidth() {
        StrokeCuts c = Edges.sized(5, 2);
        c.mark(0, 1, 1);
        due(c.costs(1L << 4), NO);
        due(c.costs(1L << 5), 9 * 9 + 2 * 10);
        c = Edges.sized(2, 5);
        c.mark(1, 0, 1);
        due(c.costs(1L << 2), NO);
        due(c.costs(1L << 1), 9 * 9 + 2 * 10);
    }

    // ---- promise 3

    static void p03_shadeOfNoughtIsTheLeast() {
        StrokeCuts c = new StrokeCuts();
        due(c.shade(0, 0, 5), 0);
        due(c.shade(0, 0, 0), 5);
        due(c.dot(0, 0, 0), 0);
    }

    static void p03_shadeOfNineIsTheGreatest() {
        StrokeCuts c = new StrokeCuts();
        due(c.shade(0, 0, 9), 0);
        due(c.shade(0, 0, 9), 9);
        due(c.dot(0, 0, 0), 9);
    }

    static void p03_shadeBelowNoughtIsBad() {
        Edges.bad(c -> c.shade(0, 0, -1));
    }

    static void p03_shadeOfTenIsBad() {
        Edges.bad(c -> c.shade(0, 0, 10));
    }

    static void p03_columnsOutsideAreBad() {
        Edges.bad(c -> c.shade(-1, 1, 5));
        Edges.bad(c -> c.shade(4, 1, 5));
    }

    static void p03_rowsOutsideAreBad() {
        Edges.bad(c -> c.shade(1, -1, 5));
        Edges.bad(c -> c.shade(1, 3, 5));
    }

    static void p03_numbersFarOutAreBad() {
        for (int v : Edges.FAR_OUT) {
            Edges.bad(c -> c.shade(v, 0, 5));
            Edges.bad(c -> c.shade(0, v, 5));
            Edges.bad(c -> c.shade(0, 0, v));
        }
    }

    static void p03_theFourCornersAreDots() {
        StrokeCuts c = Edges.sized(6, 3);
        due(c.shade(0, 0, 1), 0);
        due(c.shade(5, 0, 2), 0);
        due(c.shade(0, 2, 3), 0);
        due(c.shade(5, 2, 4), 0);
        Edges.shadesDue(c, "100002", "000000", "300004");
    }

    static void p03_whatIsADotGoesByThisPicture() {
        StrokeCuts c = Edges.sized(6, 2);
        due(c.shade(5, 1, 3), 0);
        due(c.shade(1, 5, 3), BAD);
        c.picture(2, 6);
        due(c.shade(5, 1, 3), BAD);
        due(c.shade(1, 5, 3), 0);
    }

    static void p03_leavesAState() {
        Edges.leavesState(c -> c.shade(2, 2, c.dot(2, 2, 0) == 4 ? 5 : 4));
    }

    static void p03_leavesAStateForTheSameShadeToo() {
        Edges.leavesState(c -> c.shade(2, 2, c.dot(2, 2, 0)));
    }

    static void p03_theMarkStays() {
        StrokeCuts c = new StrokeCuts();
        c.mark(1, 2, 2);
        c.shade(1, 2, 8);
        due(c.dot(1, 2, 1), 2);
    }

    // ---- promise 4

    private static void drawsDue(int w, int h, int seed, int n) {
        StrokeCuts c = Edges.sized(w, h);
        BigInteger drawn = BigInteger.valueOf(seed);
        int[] want = new int[w * h];
        int sum = 0;
        for (int k = 0; k < w * h; k++) {
            drawn = drawn.multiply(BigInteger.valueOf(1103515245)).add(BigInteger.valueOf(12345)).mod(BigInteger.valueOf(2147483648L));
            want[k] = drawn.divide(BigInteger.valueOf(65536)).mod(BigInteger.valueOf(n)).intValue();
            sum += want[k];
        }
        due(c.draws(seed, n), sum);
        for (int k = 0; k < w * h; k++) {
            due(c.dot(k % w, k / w, 0), want[k]);
        }
    }

    static void p04_seedOfNoughtIsTheLeast() {
        StrokeCuts c = Edges.sized(2, 2);
        // 12345, 1406932606, 654583775, 1449466924: by 65536 0, 21468, 9988, 22117
        due(c.draws(0, 10), 0 + 8 + 8 + 7);
        Edges.shadesDue(c, "08", "87");
    }

    static void p04_seedOf999999IsTheGreatest() {
        drawsDue(6, 6, 999999, 10);
    }

    static void p04_seedBelowNoughtIsBad() {
        Edges.bad(c -> c.draws(-1, 5));
    }

    static void p04_seedOfAMillionIsBad() {
        Edges.bad(c -> c.draws(1000000, 5));
    }

    static void p04_byOneAllShadesAreNought() {
        StrokeCuts c = Edges.busy();
        due(c.draws(4711, 1), 0);
        Edges.shadesDue(c, "0000", "0000", "0000");
    }

    static void p04_byTenIsTheGreatest() {
        drawsDue(5, 4, 31, 10);
    }

    static void p04_byNoughtIsBad() {
        Edges.bad(c -> c.draws(5, 0));
    }

    static void p04_byElevenIsBad() {
        Edges.bad(c -> c.draws(5, 11));
    }

    static void p04_numbersFarOutAreBad() {
        for (int v : Edges.FAR_OUT) {
            Edges.bad(c -> c.draws(5, v));
            if (v < 0 || v > 999999) {
                Edges.bad(c -> c.draws(v, 5));
            }
        }
    }

    static void p04_whatIsLeftOverNeverWrapsAround() {
        for (int n = 2; n <= 10; n++) {
            drawsDue(6, 6, 100000 * n - 1, n);
        }
    }

    static void p04_drawnByNumbersOfDots() {
        drawsDue(2, 6, 77, 10);
        drawsDue(6, 2, 77, 10);
    }

    static void p04_marksStay() {
        StrokeCuts c = Edges.busy();
        c.draws(9, 9);
        Edges.marksDue(c, "f...", ".f.g", "....");
    }

    static void p04_leavesAState() {
        Edges.leavesState(c -> c.draws(9, 9));
    }

    static void p04_leavesAStateForTheSameShadesToo() {
        Edges.leavesState(c -> c.draws(123, 10));
    }

    // ---- promise 5

    static void p05_noFartherThanNoughtIsOneDot() {
        StrokeCuts c = new StrokeCuts();
        due(c.blot(2, 1, 0, 6), 1);
        Edges.shadesDue(c, "0000", "0060", "0000", "0000");
    }

    static void p05_farnessIsByXAndByYTogether() {
        StrokeCuts c = Edges.sized(5, 5);
        due(c.blot(2, 2, 1, 3), 5);
        Edges.shadesDue(c, "00000", "00300", "03330", "00300", "00000");
        due(c.blot(2, 2, 2, 4), 13);
        Edges.shadesDue(c, "00400", "04440", "44444", "04440", "00400");
    }

    static void p05_tenReachesEveryDot() {
        StrokeCuts c = Edges.sized(6, 6);
        due(c.blot(0, 0, 10, 1), 36);
        due(c.dot(5, 5, 0), 1);
    }

    static void p05_nineLeavesOutTheFarCorner() {
        StrokeCuts c = Edges.sized(6, 6);
        due(c.blot(5, 0, 9, 1), 35);
        due(c.dot(0, 5, 0), 0);
        due(c.dot(1, 5, 0), 1);
        due(c.dot(0, 4, 0), 1);
    }

    static void p05_farnessBelowNoughtIsBad() {
        Edges.bad(c -> c.blot(1, 1, -1, 5));
    }

    static void p05_farnessOfElevenIsBad() {
        Edges.bad(c -> c.blot(1, 1, 11, 5));
    }

    static void p05_shadesOfNoughtAndNineCan() {
        StrokeCuts c = Edges.sized(2, 2);
        due(c.blot(0, 0, 10, 9), 4);
        Edges.shadesDue(c, "99", "99");
        due(c.blot(0, 0, 1, 0), 3);
        Edges.shadesDue(c, "00", "09");
    }

    static void p05_shadeBelowNoughtIsBad() {
        Edges.bad(c -> c.blot(1, 1, 1, -1));
    }

    static void p05_shadeOfTenIsBad() {
        Edges.bad(c -> c.blot(1, 1, 1, 10));
    }

    static void p05_theMiddleMustBeADot() {
        Edges.bad(c -> c.blot(-1, 1, 3, 5));
        Edges.bad(c -> c.blot(4, 1, 3, 5));
        Edges.bad(c -> c.blot(1, -1, 3, 5));
        Edges.bad(c -> c.blot(1, 3, 3, 5));
    }

    static void p05_numbersFarOutAreBad() {
        for (int v : Edges.FAR_OUT) {
            Edges.bad(c -> c.blot(v, 1, 1, 5));
            Edges.bad(c -> c.blot(1, v, 1, 5));
            Edges.bad(c -> c.blot(1, 1, v, 5));
            Edges.bad(c -> c.blot(1, 1, 1, v));
        }
    }

    static void p05_doesNotWrapAroundTheBorder() {
        StrokeCuts c = Edges.sized(4, 3);
        due(c.blot(0, 1, 1, 5), 4);
        Edges.shadesDue(c, "5000", "5500", "5000");
        c = Edges.sized(4, 3);
        due(c.blot(3, 1, 1, 5), 4);
        Edges.shadesDue(c, "0005", "0055", "0005");
        c = Edges.sized(4, 3);
        due(c.blot(0, 0, 1, 5), 3);
        Edges.shadesDue(c, "5500", "5000", "0000");
        c = Edges.sized(4, 3);
        due(c.blot(3, 2, 1, 5), 3);
        Edges.shadesDue(c, "0000", "0005", "0055");
    }

    static void p05_dotsThatHadThatShadeCountToo() {
        StrokeCuts c = new StrokeCuts();
        due(c.blot(1, 1, 1, 0), 5);
        due(c.blot(1, 1, 1, 0), 5);
    }

    static void p05_marksStay() {
        StrokeCuts c = Edges.busy();
        c.blot(0, 0, 10, 5);
        Edges.marksDue(c, "f...", ".f.g", "....");
    }

    static void p05_leavesAState() {
        Edges.leavesState(c -> c.blot(1, 1, 2, 4));
    }

    static void p05_leavesAStateForTheSameShadeToo() {
        Edges.leavesState(c -> c.blot(1, 1, 0, c.dot(1, 1, 0)));
    }
}
