/** One method a promise, with answers worked out by hand from the document's words. */
public final class PromiseTests {
    private static final int NONE = -1, BAD = -2, NO = -3, FULL = -4;
    private static final int[] WILD = {Integer.MIN_VALUE, -1000000, -7, Integer.MAX_VALUE, 1000000};
    private static int wrong = 0;
    private static int promise;
    private static int row;

    private static void due(long got, long want) {
        row++;
        if (got != want) {
            wrong++;
            System.out.println("promise " + promise + ", row " + row + ": answered " + got + ", due is " + want);
        }
    }

    private static StrokeCuts begin(int number) {
        promise = number;
        row = 0;
        return new StrokeCuts();
    }

    private static StrokeCuts sized(int number, int w, int h) {
        StrokeCuts c = begin(number);
        c.picture(w, h);
        return c;
    }

    private static void typeAll(StrokeCuts c, String text) {
        c.clear();
        for (int i = 0; i < text.length(); i++) {
            due(c.type(text.charAt(i)), i + 1);
        }
    }

    private static void doesDue(StrokeCuts c, String text, int want) {
        typeAll(c, text);
        int states = c.told(12);
        due(c.does(), want);
        due(c.told(11), text.length());
        due(c.told(12), want < 0 ? states : Math.min(8, states + 1));
    }

    private static void shadesDue(StrokeCuts c, int... shades) {
        int w = c.told(3);
        for (int k = 0; k < shades.length; k++) {
            due(c.dot(k % w, k / w, 0), shades[k]);
        }
    }

    // one row of signs a row of dots: . none, f figure, g ground
    private static void marksDue(StrokeCuts c, String... rows) {
        for (int y = 0; y < rows.length; y++) {
            for (int x = 0; x < rows[y].length(); x++) {
                due(c.dot(x, y, 1), ".fg".indexOf(rows[y].charAt(x)));
            }
        }
    }

    private static void shadeAll(StrokeCuts c, int... shades) {
        int w = c.told(3);
        for (int k = 0; k < shades.length; k++) {
            c.shade(k % w, k / w, shades[k]);
        }
    }

    // the refused calls must have counted so and so often, and have left no state
    private static void refusedDue(StrokeCuts c, int bad, int no, int full, int states) {
        due(c.told(0), bad);
        due(c.told(1), no);
        due(c.told(2), full);
        due(c.told(12), states);
    }

    private static void newObject() {
        StrokeCuts c = begin(1);
        int[] want = {0, 0, 0, 4, 4, 10, 2, 1, 0, 9, 4, 0, 0};
        for (int what = 0; what < want.length; what++) {
            due(c.told(what), want[what]);
        }
        marksDue(c, "....", "....", "....", "....");
        shadesDue(c, new int[16]);
        due(c.cost(), 0);
        due(c.side(0), 65535);
        due(c.side(1), 65535);
        due(c.dot(4, 0, 0), BAD);
        due(c.dot(0, 4, 0), BAD);
    }

    private static void picture() {
        StrokeCuts c = begin(2);
        for (int w = 2; w <= 6; w++) {
            for (int h = 2; h <= 6; h++) {
                due(c.picture(w, h), w * h);
                due(c.told(3), w);
                due(c.told(4), h);
                due(c.dot(w - 1, h - 1, 0), 0);
            }
        }
        c = begin(2);
        c.sets(0, 33);
        c.sets(5, 8);
        c.mark(1, 1, 1);
        c.shade(2, 2, 5);
        due(c.picture(4, 4), 16);
        shadesDue(c, new int[16]);
        marksDue(c, "....", "....", "....", "....");
        due(c.told(5), 33);
        due(c.told(10), 8);
        due(c.told(12), 5);
        due(c.picture(1, 4), BAD);
        due(c.picture(4, 1), BAD);
        due(c.picture(7, 4), BAD);
        due(c.picture(4, 7), BAD);
        for (int v : WILD) {
            due(c.picture(v, 4), BAD);
            due(c.picture(4, v), BAD);
        }
        refusedDue(c, 14, 0, 0, 5);
        c = sized(2, 5, 2);
        c.mark(0, 1, 1);
        due(c.costs(1L << 5) >= 0 ? 1 : 0, 1);
        due(c.costs(1), NO);
    }

    private static void shade() {
        StrokeCuts c = begin(3);
        due(c.shade(3, 2, 7), 0);
        due(c.shade(3, 2, 9), 7);
        due(c.shade(3, 2, 0), 9);
        due(c.shade(3, 2, 0), 0);
        due(c.shade(1, 0, 4), 0);
        shadesDue(c, 0, 4, 0, 0, 0, 0, 0, 0, 0, 0, 0, 0, 0, 0, 0, 0);
        due(c.told(12), 5);
        due(c.shade(-1, 0, 1), BAD);
        due(c.shade(0, -1, 1), BAD);
        due(c.shade(4, 0, 1), BAD);
        due(c.shade(0, 4, 1), BAD);
        due(c.shade(0, 0, -1), BAD);
        due(c.shade(0, 0, 10), BAD);
        for (int v : WILD) {
            due(c.shade(v, 0, 1), BAD);
            due(c.shade(0, v, 1), BAD);
            due(c.shade(0, 0, v), BAD);
        }
        due(c.dot(0, 0, 0), 0);
        refusedDue(c, 21, 0, 0, 5);
    }

    private static void draws() {
        StrokeCuts c = sized(4, 2, 2);
        due(c.draws(0, 10), 23);
        shadesDue(c, 0, 8, 8, 7);
        due(c.draws(999999, 10), 28);
        shadesDue(c, 8, 8, 3, 9);
        due(c.draws(999999, 7), 18);
        shadesDue(c, 2, 4, 6, 6);
        due(c.draws(5, 1), 0);
        shadesDue(c, 0, 0, 0, 0);
        due(c.told(12), 5);
        due(c.draws(-1, 5), BAD);
        due(c.draws(1000000, 5), BAD);
        due(c.draws(5, 0), BAD);
        due(c.draws(5, 11), BAD);
        for (int v : WILD) {
            due(c.draws(v, 5), BAD);
            due(c.draws(5, v), BAD);
        }
        refusedDue(c, 14, 0, 0, 5);
    }

    private static void blot() {
        StrokeCuts c = begin(5);
        due(c.blot(1, 1, 0, 3), 1);
        shadesDue(c, 0, 0, 0, 0, 0, 3, 0, 0, 0, 0, 0, 0, 0, 0, 0, 0);
        due(c.blot(2, 2, 1, 4), 5);
        shadesDue(c, 0, 0, 0, 0, 0, 3, 4, 0, 0, 4, 4, 4, 0, 0, 4, 0);
        due(c.blot(0, 0, 2, 9), 6);
        shadesDue(c, 9, 9, 9, 0, 9, 9, 4, 0, 9, 4, 4, 4, 0, 0, 4, 0);
        due(c.blot(0, 0, 6, 1), 16);
        due(c.blot(3, 3, 10, 0), 16);
        due(c.blot(0, 3, 5, 2), 15);
        due(c.dot(3, 0, 0), 0);
        due(c.told(12), 6);
        due(c.blot(-1, 0, 1, 1), BAD);
        due(c.blot(0, 4, 1, 1), BAD);
        due(c.blot(0, 0, -1, 1), BAD);
        due(c.blot(0, 0, 11, 1), BAD);
        due(c.blot(0, 0, 1, -1), BAD);
        due(c.blot(0, 0, 1, 10), BAD);
        for (int v : WILD) {
            due(c.blot(v, 0, 1, 1), BAD);
            due(c.blot(0, v, 1, 1), BAD);
            due(c.blot(0, 0, v, 1), BAD);
            due(c.blot(0, 0, 1, v), BAD);
        }
        refusedDue(c, 26, 0, 0, 6);
    }

    private static void mark() {
        StrokeCuts c = begin(6);
        due(c.mark(2, 1, 1), 0);
        due(c.mark(2, 1, 2), 1);
        due(c.mark(2, 1, 2), 2);
        due(c.mark(0, 3, 1), 0);
        marksDue(c, "....", "..g.", "....", "f...");
        due(c.mark(2, 1, 0), 2);
        due(c.told(12), 5);
        due(c.mark(4, 0, 1), BAD);
        due(c.mark(0, 4, 1), BAD);
        due(c.mark(0, 0, -1), BAD);
        due(c.mark(0, 0, 3), BAD);
        for (int v : WILD) {
            due(c.mark(v, 0, 1), BAD);
            due(c.mark(0, v, 1), BAD);
            due(c.mark(0, 0, v), BAD);
        }
        marksDue(c, "....", "....", "....", "f...");
        refusedDue(c, 19, 0, 0, 5);
    }

    private static void stroke() {
        StrokeCuts c = sized(7, 6, 3);
        due(c.stroke(1, 0, 0, 5, 2), 6);
        marksDue(c, "ff....", "..ff..", "....ff");
        due(c.stroke(2, 5, 2, 0, 0), 6);
        marksDue(c, "gg....", "..gg..", "....gg");
        due(c.stroke(2, 1, 0, 1, 0), 0);
        due(c.stroke(1, 2, 1, 2, 1), 1);
        due(c.stroke(1, 0, 1, 5, 1), 5);
        marksDue(c, "gg....", "ffffff", "....gg");
        halves();
        c = begin(7);
        due(c.stroke(0, 0, 0, 3, 3), 0);
        due(c.stroke(1, 3, 0, 0, 3), 4);
        marksDue(c, "...f", "..f.", ".f..", "f...");
        due(c.told(12), 2);
        due(c.stroke(-1, 0, 0, 1, 1), BAD);
        due(c.stroke(3, 0, 0, 1, 1), BAD);
        due(c.stroke(1, 4, 0, 1, 1), BAD);
        due(c.stroke(1, 0, 4, 1, 1), BAD);
        due(c.stroke(1, 0, 0, 4, 1), BAD);
        due(c.stroke(1, 0, 0, 1, 4), BAD);
        for (int v : WILD) {
            due(c.stroke(v, 0, 0, 1, 1), BAD);
            due(c.stroke(1, v, 0, 1, 1), BAD);
            due(c.stroke(1, 0, v, 1, 1), BAD);
            due(c.stroke(1, 0, 0, v, 1), BAD);
            due(c.stroke(1, 0, 0, 1, v), BAD);
        }
        refusedDue(c, 31, 0, 0, 2);
    }

    // a half goes to the greater one, also where the line goes to the left or up
    private static void halves() {
        int[][] ends = {{0, 0, 2, 1}, {2, 1, 0, 0}, {0, 1, 2, 0}, {2, 0, 0, 1}};
        for (int[] e : ends) {
            StrokeCuts c = sized(7, 3, 2);
            due(c.stroke(1, e[0], e[1], e[2], e[3]), 3);
            due(c.dot(1, 1, 1), 1);
            due(c.dot(1, 0, 1), 0);
            c = sized(7, 2, 3);
            due(c.stroke(1, e[1], e[0], e[3], e[2]), 3);
            due(c.dot(1, 1, 1), 1);
            due(c.dot(0, 1, 1), 0);
        }
    }

    private static void sets() {
        StrokeCuts c = begin(8);
        int[] first = {10, 2, 1, 0, 9, 4}, least = {1, 0, 0, 0, 0, 4}, greatest = {50, 9, 9, 9, 9, 8};
        for (int what = 0; what < 6; what++) {
            due(c.sets(what, least[what]), first[what]);
            due(c.sets(what, greatest[what]), least[what]);
            due(c.told(5 + what), greatest[what]);
            due(c.sets(what, least[what] - 1), BAD);
            due(c.sets(what, greatest[what] + 1), BAD);
            for (int v : WILD) {
                due(c.sets(what, v), BAD);
            }
            due(c.told(5 + what), greatest[what]);
        }
        for (int v = 5; v < 8; v++) {
            due(c.sets(5, v), BAD);
        }
        due(c.sets(-1, 4), BAD);
        due(c.sets(6, 4), BAD);
        for (int v : WILD) {
            due(c.sets(v, 4), BAD);
        }
        refusedDue(c, 52, 0, 0, 8);
    }

    private static void dot() {
        StrokeCuts c = begin(9);
        c.shade(1, 2, 7);
        c.mark(1, 2, 2);
        c.sets(2, 3);
        c.sets(3, 2);
        c.sets(4, 8);
        due(c.dot(1, 2, 0), 7);
        due(c.dot(1, 2, 1), 2);
        due(c.dot(1, 2, 2), 15);
        due(c.dot(1, 2, 3), 3);
        due(c.dot(0, 0, 2), 6);
        due(c.dot(0, 0, 3), 24);
        c.sets(2, 0);
        due(c.dot(1, 2, 2), 0);
        due(c.dot(1, 2, 3), 0);
        due(c.dot(1, 2, -1), BAD);
        due(c.dot(1, 2, 4), BAD);
        due(c.dot(4, 2, 0), BAD);
        due(c.dot(1, 4, 0), BAD);
        due(c.dot(-1, -1, 9), BAD);
        for (int v : WILD) {
            due(c.dot(v, 0, 0), BAD);
            due(c.dot(0, v, 0), BAD);
            due(c.dot(0, 0, v), BAD);
        }
        refusedDue(c, 20, 0, 0, 6);
    }

    private static void link() {
        StrokeCuts c = sized(10, 3, 2);
        shadeAll(c, 0, 4, 9, 5, 0, 1);
        int[][] near4 = {{2, 1, NONE, NONE}, {1, 2, NONE, NONE}, {NONE, 1, NONE, NONE}, {1, NONE, NONE, NONE}, {8, NONE, NONE, NONE},
            {NONE, NONE, NONE, NONE}};
        linksDue(c, near4);
        c.sets(5, 8);
        int[][] near8 = {{2, 1, 5, NONE}, {1, 2, 2, 4}, {NONE, 1, NONE, 1}, {1, NONE, NONE, NONE}, {8, NONE, NONE, NONE},
            {NONE, NONE, NONE, NONE}};
        linksDue(c, near8);
        c.sets(0, 7);
        due(c.link(0, 0, 2), 3);
        c.sets(0, 50);
        due(c.link(0, 0, 2), 25);
        due(c.link(0, 0, 0), 42);
        c.sets(1, 9);
        due(c.link(1, 0, 0), 5);
        c.sets(0, 1);
        due(c.link(0, 0, 2), 1);
        c.sets(1, 0);
        due(c.link(1, 0, 0), 1);
        due(c.link(1, 0, -1), BAD);
        due(c.link(1, 0, 4), BAD);
        due(c.link(3, 0, 0), BAD);
        due(c.link(0, 2, 0), BAD);
        for (int v : WILD) {
            due(c.link(v, 0, 0), BAD);
            due(c.link(0, v, 0), BAD);
            due(c.link(0, 0, v), BAD);
        }
        refusedDue(c, 19, 0, 0, 8);
    }

    private static void linksDue(StrokeCuts c, int[][] want) {
        for (int k = 0; k < want.length; k++) {
            for (int d = 0; d < 4; d++) {
                due(c.link(k % 3, k / 3, d), want[k][d]);
            }
        }
    }

    // two rows of two: 0 0 above, 9 9 below, so that tones 0 and 9 part them for the price of two links
    private static StrokeCuts halved(int number) {
        StrokeCuts c = sized(number, 2, 2);
        shadeAll(c, 0, 0, 9, 9);
        return c;
    }

    private static void cost() {
        StrokeCuts c = halved(11);
        due(c.cost(), 2);
        c.sets(1, 0);
        due(c.cost(), 18);
        c.sets(0, 4);
        due(c.cost(), 8);
        c.sets(5, 8);
        due(c.cost(), 12);
        c.sets(2, 0);
        due(c.cost(), 0);
        c.mark(0, 0, 1);
        due(c.cost(), 0);
        c.mark(1, 0, 2);
        due(c.cost(), 10);
        c.sets(2, 9);
        due(c.cost(), 81 + 4 + 2 + 4);
        due(c.told(12), 8);
        c = sized(11, 6, 6);
        c.sets(0, 50);
        c.sets(1, 0);
        c.sets(2, 9);
        c.sets(5, 8);
        for (int y = 0; y < 6; y++) {
            for (int x = 0; x < 6; x++) {
                c.mark(x, y, (x + y) % 2 == 0 ? 2 : 1);
            }
        }
        due(c.cost(), 60 * 50 + 18 * 81);
    }

    private static void side() {
        StrokeCuts c = halved(12);
        due(c.side(0), 3);
        due(c.side(1), 3);
        c.sets(2, 0);
        due(c.side(0), 0);
        due(c.side(1), 15);
        c.mark(0, 0, 1);
        due(c.side(0), 15);
        due(c.side(1), 15);
        c.mark(1, 1, 2);
        due(c.side(0), 3);
        due(c.side(1), 3);
        c.sets(1, 0);
        due(c.side(0), 1);
        due(c.side(1), 7);
        due(c.side(-1), BAD);
        due(c.side(2), BAD);
        for (int v : WILD) {
            due(c.side(v), BAD);
        }
        refusedDue(c, 7, 0, 0, 8);
    }

    private static void sure() {
        StrokeCuts c = halved(13);
        due(c.sure(0, 0), 1);
        due(c.sure(1, 1), 0);
        c.sets(2, 0);
        due(c.sure(0, 0), 2);
        c.sets(1, 0);
        c.mark(0, 0, 1);
        c.mark(1, 1, 2);
        due(c.sure(0, 0), 1);
        due(c.sure(1, 0), 2);
        due(c.sure(0, 1), 2);
        due(c.sure(1, 1), 0);
        due(c.sure(2, 0), BAD);
        due(c.sure(0, 2), BAD);
        for (int v : WILD) {
            due(c.sure(v, 0), BAD);
            due(c.sure(0, v), BAD);
        }
        refusedDue(c, 12, 0, 0, 8);
    }

    private static void were() {
        StrokeCuts c = halved(14);
        due(c.were(0, 0, 0), 2);
        due(c.were(0, 0, 1), 2);
        due(c.were(0, 0, 2), 18);
        c.mark(0, 0, 2);
        due(c.cost(), 18);
        due(c.were(0, 0, 0), 2);
        due(c.were(0, 0, 1), 2);
        due(c.were(0, 0, 2), 18);
        due(c.were(1, 0, 2), 18);
        marksDue(c, "g.", "..");
        due(c.told(12), 6);
        due(c.were(0, 0, 3), BAD);
        due(c.were(0, 0, -1), BAD);
        due(c.were(2, 0, 1), BAD);
        due(c.were(0, 2, 1), BAD);
        for (int v : WILD) {
            due(c.were(v, 0, 0), BAD);
            due(c.were(0, v, 0), BAD);
            due(c.were(0, 0, v), BAD);
        }
        refusedDue(c, 19, 0, 0, 6);
    }

    private static void strain() {
        StrokeCuts c = halved(15);
        due(c.strain(0, 0, 1, 0), 1);
        due(c.strain(0, 0, 1, 1), 2);
        due(c.strain(0, 0, 1, 5), 6);
        due(c.strain(0, 0, 1, 99), 18);
        due(c.strain(0, 0, 0, 0), 2);
        due(c.strain(1, 0, 0, 5), NONE);
        due(c.strain(0, 1, 1, 5), NONE);
        due(c.strain(0, 0, 2, 5), NONE);
        due(c.link(0, 0, 1), 1);
        c.sets(5, 8);
        due(c.cost(), 4);
        due(c.strain(0, 0, 2, 5), 8);
        due(c.strain(1, 0, 3, 0), 3);
        due(c.strain(0, 0, 3, 0), NONE);
        due(c.strain(0, 0, 1, -1), BAD);
        due(c.strain(0, 0, 1, 100), BAD);
        due(c.strain(1, 0, 0, 100), BAD);
        due(c.strain(0, 0, 4, 1), BAD);
        due(c.strain(0, 0, -1, 1), BAD);
        due(c.strain(2, 0, 1, 1), BAD);
        due(c.strain(0, 2, 1, 1), BAD);
        for (int v : WILD) {
            due(c.strain(v, 0, 1, 1), BAD);
            due(c.strain(0, v, 1, 1), BAD);
            due(c.strain(0, 0, v, 1), BAD);
            due(c.strain(0, 0, 1, v), BAD);
        }
        refusedDue(c, 27, 0, 0, 6);
    }

    private static void tight() {
        StrokeCuts c = halved(16);
        due(c.tight(0, 0, 0), 0);
        due(c.tight(0, 0, 1), 2);
        due(c.tight(1, 0, 1), 2);
        due(c.tight(0, 1, 0), 0);
        due(c.tight(0, 0, 2), NONE);
        due(c.tight(1, 0, 0), NONE);
        c.sets(5, 8);
        due(c.tight(0, 0, 2), 2);
        due(c.tight(1, 0, 3), 2);
        due(c.tight(0, 0, 3), NONE);
        c.sets(2, 0);
        due(c.tight(0, 0, 1), 0);
        due(c.tight(0, 0, 5), BAD);
        due(c.tight(0, 0, -1), BAD);
        due(c.tight(2, 0, 0), BAD);
        due(c.tight(0, 2, 0), BAD);
        for (int v : WILD) {
            due(c.tight(v, 0, 0), BAD);
            due(c.tight(0, v, 0), BAD);
            due(c.tight(0, 0, v), BAD);
        }
        refusedDue(c, 19, 0, 0, 7);
        tightInSome();
    }

    // no pull, all alike, figure at one corner, ground at the other one: some best ones cut here, some there
    private static void tightInSome() {
        StrokeCuts c = sized(16, 2, 2);
        c.sets(2, 0);
        c.mark(0, 0, 1);
        c.mark(1, 1, 2);
        due(c.tight(0, 0, 0), 1);
        due(c.tight(0, 0, 1), 1);
        due(c.tight(1, 0, 1), 1);
        due(c.tight(0, 1, 0), 1);
        c.sets(5, 8);
        due(c.tight(0, 0, 2), 2);
        due(c.tight(1, 0, 3), 0);
        c.shade(1, 0, 1);
        due(c.tight(0, 0, 0), 1);
        due(c.tight(0, 0, 1), 1);
        c.mark(0, 1, 1);
        due(c.tight(0, 0, 1), 0);
        due(c.tight(0, 1, 0), 2);
    }

    private static void costs() {
        StrokeCuts c = halved(17);
        due(c.costs(0), 18);
        due(c.costs(3), 2);
        due(c.costs(15), 18);
        due(c.costs(12), 38);
        due(c.costs(1), 9 + 10 + 1);
        c.sets(5, 8);
        due(c.costs(3), 4);
        due(c.costs(1), 9 + 10 + 1 + 1);
        c.mark(0, 0, 1);
        c.mark(1, 1, 2);
        due(c.costs(3), 4);
        due(c.costs(2), NO);
        due(c.costs(11), NO);
        due(c.costs(16), BAD);
        due(c.costs(-1), BAD);
        due(c.costs(Long.MIN_VALUE), BAD);
        due(c.costs(Long.MAX_VALUE), BAD);
        due(c.costs(1L << 36), BAD);
        refusedDue(c, 5, 2, 0, 8);
        c = sized(17, 6, 6);
        due(c.costs((1L << 36) - 1), 0);
        due(c.costs(1L << 35), 20 + 35 * 9);
        due(c.costs(1L << 36), BAD);
    }

    // f where the least one is to be: by marks alone
    private static StrokeCuts figure(String... rows) {
        StrokeCuts c = sized(18, rows[0].length(), rows.length);
        for (int y = 0; y < rows.length; y++) {
            for (int x = 0; x < rows[y].length(); x++) {
                c.mark(x, y, rows[y].charAt(x) == 'f' ? 1 : 2);
            }
        }
        return c;
    }

    private static void shapeDue(StrokeCuts c, int... want) {
        for (int what = 0; what < want.length; what++) {
            due(c.shape(what), want[what]);
        }
    }

    private static void shape() {
        begin(18);
        shapeDue(figure("......", ".fff..", ".f.f..", ".fff..", "......"), 8, 1, 1, 16, 1, 1, 3, 3);
        shapeDue(figure("......", "..f...", ".f.f..", "..f...", "......"), 4, 4, 1, 16, 1, 1, 3, 3);
        shapeDue(figure("f....f", "......", "......", "......", "......", "f....f"), 4, 4, 0, 16, 0, 0, 5, 5);
        shapeDue(figure("ffffff", "f....f", "f.ff.f", "f.ff.f", "f....f", "ffffff"), 24, 2, 1, 48, 0, 0, 5, 5);
        shapeDue(figure("ffffff", "f.ff.f", "ffffff", "ffffff", "f.ff.f", "ffffff"), 32, 1, 4, 40, 0, 0, 5, 5);
        shapeDue(figure(".ff.", "f..f", "ffff"), 8, 2, 1, 20, 0, 0, 3, 2);
        shapeDue(figure("..", ".."), 0, 0, 0, 0, NONE, NONE, NONE, NONE);
        shapeDue(figure("ff", "ff"), 4, 1, 0, 8, 0, 0, 1, 1);
        shapeDue(figure(".....", "...f.", "....."), 1, 1, 0, 4, 3, 1, 3, 1);
        shapeDue(figure("...f", "f...", "...."), 2, 2, 0, 8, 0, 0, 3, 1);
        shapeDue(figure("fff", "f.f", "ff."), 7, 1, 1, 4 * 7 - 2 * 6, 0, 0, 2, 2);
        StrokeCuts c = halved(18);
        c.sets(2, 0);
        due(c.shape(0), 0);
        due(c.shape(-1), BAD);
        due(c.shape(8), BAD);
        for (int v : WILD) {
            due(c.shape(v), BAD);
        }
        refusedDue(c, 7, 0, 0, 6);
    }

    private static void learns() {
        StrokeCuts c = sized(19, 2, 2);
        shadeAll(c, 2, 2, 7, 9);
        c.sets(0, 1);
        due(c.learns(5), 1);
        due(c.told(8), 2);
        due(c.told(9), 8);
        due(c.told(12), 7);
        due(c.learns(20), 0);
        due(c.told(12), 8);
        due(c.back(), 7);
        due(c.back(), 6);
        due(c.told(8), 0);
        due(c.told(9), 9);
        c.stroke(2, 0, 0, 1, 0);
        c.stroke(2, 0, 1, 1, 1);
        due(c.learns(1), 1);
        due(c.told(8), 0);
        due(c.told(9), 5);
        c.turns();
        due(c.learns(1), 0);
        c.sets(3, 1);
        c.sets(4, 3);
        due(c.learns(3), 1);
        due(c.told(8), 5);
        due(c.told(9), 3);
        due(c.learns(0), BAD);
        due(c.learns(21), BAD);
        for (int v : WILD) {
            due(c.learns(v), BAD);
        }
        refusedDue(c, 7, 0, 0, 8);
        learnsInSteps();
    }

    // 0 3 5 6 9 without holding links: dots move from the ground to the figure as tones move
    private static void learnsInSteps() {
        StrokeCuts c = sized(19, 5, 2);
        shadeAll(c, 0, 3, 5, 6, 9, 0, 3, 5, 6, 9);
        c.sets(0, 1);
        c.sets(2, 9);
        c.sets(3, 0);
        c.sets(4, 3);
        due(c.side(0), 1 + 32);
        due(c.learns(1), 1);
        due(c.told(8), 0);
        due(c.told(9), 5);
        due(c.learns(1), 0);
        c.sets(3, 1);
        c.sets(4, 6);
        due(c.side(0), 3 + 32 + 64);
        due(c.learns(20), 0);
        due(c.told(8), 1);
        due(c.told(9), 6);
        c.sets(3, 2);
        c.sets(4, 9);
        due(c.side(0), 7 + 32 * 7);
        due(c.learns(1), 1);
        due(c.told(8), 2);
        due(c.told(9), 7);
        due(c.side(0), 3 + 32 * 3);
        due(c.learns(20), 1);
        due(c.told(8), 1);
        due(c.told(9), 6);
    }

    private static void keeps() {
        StrokeCuts c = halved(20);
        due(c.keeps(), 4);
        marksDue(c, "ff", "gg");
        due(c.told(12), 6);
        due(c.keeps(), 0);
        due(c.told(12), 7);
        c.mark(1, 0, 0);
        c.mark(0, 1, 0);
        c.sets(2, 0);
        due(c.keeps(), 2);
        marksDue(c, "ff", "gg");
        c = sized(20, 2, 2);
        c.sets(2, 0);
        due(c.keeps(), 4);
        marksDue(c, "gg", "gg");
        due(c.back(), 2);
        marksDue(c, "..", "..");
    }

    private static void turns() {
        StrokeCuts c = begin(21);
        c.stroke(1, 0, 0, 2, 0);
        c.stroke(2, 0, 3, 1, 3);
        c.sets(3, 4);
        due(c.turns(), 5);
        marksDue(c, "ggg.", "....", "....", "ff..");
        due(c.told(8), 9);
        due(c.told(9), 4);
        due(c.told(12), 4);
        due(c.turns(), 5);
        marksDue(c, "fff.", "....", "....", "gg..");
        due(c.told(8), 4);
        c.picture(3, 3);
        due(c.turns(), 0);
        due(c.told(8), 9);
        due(c.told(12), 7);
    }

    private static void type() {
        StrokeCuts c = begin(22);
        due(c.type(0), 1);
        due(c.type(127), 2);
        due(c.type(-1), BAD);
        due(c.type(128), BAD);
        for (int v : WILD) {
            due(c.type(v), BAD);
        }
        due(c.told(11), 2);
        for (int i = 3; i <= 100; i++) {
            due(c.type('f'), i);
        }
        due(c.type('f'), FULL);
        due(c.type(' '), FULL);
        due(c.type(128), BAD);
        due(c.told(11), 100);
        refusedDue(c, 8, 0, 2, 0);
    }

    private static void clear() {
        StrokeCuts c = begin(23);
        due(c.clear(), 0);
        typeAll(c, "f00;");
        due(c.clear(), 4);
        due(c.clear(), 0);
        due(c.told(11), 0);
        due(c.does(), -10);
        due(c.type('n'), 1);
        due(c.clear(), 1);
        refusedDue(c, 0, 0, 0, 0);
    }

    private static void does() {
        StrokeCuts c = begin(24);
        doesDue(c, "f00;", 1);
        doesDue(c, " g 3 3 ; n 0 0 ; s 1 2 7 ; ", 3);
        marksDue(c, "....", "....", "....", "...g");
        due(c.dot(1, 2, 0), 7);
        due(c.told(12), 2);
        due(c.does(), 3);
        due(c.back(), 2);
        due(c.back(), 1);
        marksDue(c, "f...", "....", "....", "....");
        due(c.dot(1, 2, 0), 0);
        c = sized(24, 6, 3);
        doesDue(c, "f0052;g0252;n3232;", 3);
        marksDue(c, "ff....", "..ff..", "ggg.gg");
        doesDue(c, "f52;f5 2;", 2);
        c = sized(24, 2, 2);
        shadeAll(c, 2, 2, 7, 9);
        c.sets(0, 1);
        doesDue(c, "l5;", 1);
        due(c.told(8), 2);
        due(c.told(9), 8);
        doesDue(c, "s000;s108;l9;f11;", 4);
        due(c.told(8), 0);
        due(c.told(9), 8);
        faults();
        longTexts();
    }

    private static void faults() {
        StrokeCuts c = sized(24, 5, 3);
        String[] texts = {"", " ", "   ", "q", ";", "f", "f0", "f00", "f00 ", "f;", "f0;", "f000;", "f00000;", "f50;", "f03;", "f0050;", "f0003;",
            "s", "s00", "s00;", "s000", "s0000;", "s53", "s03", "l", "l;", "l0;", "l 0;", "l1", "l10;", "F00;", "f00;;", "f00; ;", "f00;g",
            "f00;x", "f00; x", "  l1 0", "f0,0;", "0", "f00;f0 0 4 2 1;", "n49;", "g-1;"};
        int[] places = {0, 1, 3, 0, 0, 1, 2, 3, 4, 1, 2, 4, 5, 1, 2, 3, 4,
            1, 3, 3, 4, 4, 1, 2, 1, 1, 1, 2, 2, 2, 0, 4, 5, 5,
            4, 5, 5, 2, 0, 13, 2, 1};
        for (int i = 0; i < texts.length; i++) {
            doesDue(c, texts[i], -10 - places[i]);
        }
        doesDue(c, "f00;s119;l3;f5", -10 - 13);
        marksDue(c, ".....", ".....", ".....");
        shadesDue(c, new int[15]);
        refusedDue(c, 0, 0, 0, 1);
        typeAll(c, "f");
        c.type(0);
        due(c.does(), -11);
        typeAll(c, "f\t");
        due(c.does(), -11);
    }

    private static void longTexts() {
        StrokeCuts c = begin(24);
        doesDue(c, "l9;".repeat(33) + " ", 33);
        doesDue(c, "n00;".repeat(25), 25);
        doesDue(c, " ".repeat(100), -110);
        c = begin(24);
        doesDue(c, " ".repeat(96) + "f33;", 1);
        doesDue(c, "n00;".repeat(24) + "n003", -110);
        due(c.type(';'), FULL);
        due(c.does(), -110);
    }

    private static void back() {
        StrokeCuts c = begin(25);
        due(c.back(), NO);
        for (int i = 1; i <= 9; i++) {
            c.shade(0, 0, i);
        }
        due(c.told(12), 8);
        for (int i = 7; i >= 0; i--) {
            due(c.back(), i);
            due(c.dot(0, 0, 0), i + 1);
        }
        due(c.back(), NO);
        due(c.dot(0, 0, 0), 1);
        refusedDue(c, 0, 2, 0, 0);
        everyStateCall();
        backBringsAll();
    }

    private static void everyStateCall() {
        StrokeCuts c = begin(25);
        typeAll(c, "f33;");
        c.picture(4, 4);
        c.shade(0, 0, 0);
        c.draws(1, 1);
        c.blot(0, 0, 0, 0);
        c.mark(0, 0, 0);
        c.stroke(0, 0, 0, 0, 0);
        due(c.told(12), 6);
        c.sets(0, 10);
        due(c.told(12), 7);
        c.back();
        c.back();
        c.learns(1);
        c.keeps();
        c.turns();
        due(c.told(12), 8);
        c.back();
        c.back();
        c.does();
        due(c.told(12), 7);
        c.cost();
        c.side(0);
        c.sure(0, 0);
        c.were(0, 0, 1);
        c.strain(0, 0, 0, 1);
        c.tight(0, 0, 0);
        c.costs(0);
        c.shape(0);
        c.told(0);
        c.digest();
        c.clear();
        c.type(1);
        c.dot(0, 0, 0);
        c.link(0, 0, 0);
        due(c.told(12), 7);
    }

    private static void backBringsAll() {
        StrokeCuts c = begin(25);
        int[] values = {20, 5, 3, 1, 8, 8};
        for (int what = 0; what < 6; what++) {
            c.sets(what, values[what]);
        }
        c.stroke(2, 0, 0, 3, 3);
        typeAll(c, "l1;");
        c.picture(6, 2);
        due(c.told(3), 6);
        due(c.back(), 7);
        due(c.told(3), 4);
        due(c.told(4), 4);
        due(c.told(11), 3);
        marksDue(c, "g...", ".g..", "..g.", "...g");
        due(c.back(), 6);
        marksDue(c, "....", "....", "....", "....");
        int[] first = {10, 2, 1, 0, 9, 4};
        for (int what = 5; what >= 0; what--) {
            due(c.told(5 + what), values[what]);
            due(c.back(), what);
            due(c.told(5 + what), first[what]);
        }
    }

    private static void told() {
        StrokeCuts c = begin(26);
        c.picture(6, 3);
        c.back();
        c.back();
        c.picture(5, 2);
        int[] values = {21, 3, 4, 5, 6, 8};
        for (int what = 0; what < 6; what++) {
            c.sets(what, values[what]);
        }
        c.type('a');
        c.type('b');
        due(c.told(-1), BAD);
        due(c.told(13), BAD);
        for (int v : WILD) {
            due(c.told(v), BAD);
        }
        int[] want = {7, 1, 0, 5, 2, 21, 3, 4, 5, 6, 8, 2, 7};
        for (int what = 0; what < 13; what++) {
            due(c.told(what), want[what]);
        }
    }

    private static void digest() {
        StrokeCuts c = begin(27);
        digestDue(c);
        c.picture(6, 5);
        c.draws(4711, 10);
        c.stroke(1, 0, 0, 2, 2);
        c.stroke(2, 5, 0, 5, 4);
        c.sets(5, 8);
        c.mark(9, 9, 9);
        c.costs(0);
        typeAll(c, "f00");
        digestDue(c);
        c.sets(2, 0);
        digestDue(c);
        due(c.told(12), 6);
    }

    private static void digestDue(StrokeCuts c) {
        long h = 1744;
        for (int what = 0; what <= 12; what++) {
            h = 31 * h + c.told(what);
        }
        for (int y = 0; y < c.told(4); y++) {
            for (int x = 0; x < c.told(3); x++) {
                h = 31 * h + c.dot(x, y, 0);
                h = 31 * h + c.dot(x, y, 1);
            }
        }
        h = 31 * h + c.cost();
        h = 31 * h + c.side(0);
        h = 31 * h + c.side(1);
        due(c.digest(), h);
        due(c.digest(), h);
    }

    public static void main(String[] args) {
        newObject();
        picture();
        shade();
        draws();
        blot();
        mark();
        stroke();
        sets();
        dot();
        link();
        cost();
        side();
        sure();
        were();
        strain();
        tight();
        costs();
        shape();
        learns();
        keeps();
        turns();
        type();
        clear();
        does();
        back();
        told();
        digest();
        System.out.println(wrong == 0 ? "all answers are as due" : wrong + " answers are not as due");
        if (wrong != 0) {
            System.exit(1);
        }
    }
}
