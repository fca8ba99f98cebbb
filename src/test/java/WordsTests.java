import java.util.Random;
import java.util.regex.Matcher;
import java.util.regex.Pattern;

/**
 * Whole ranges gone through by the words of the document alone: best cut-outs found by the cost of every set of dots there is,
 * every line of the greatest picture, short texts by one expression that all texts without a fault must match.
 */
public final class WordsTests {
    private static final int PICTURES = 400, MOST_DOTS_GONE_THROUGH = 16;
    private static final String SIGNS = "fsl;0123 ";
    private static final int MOST_SIGNS = 7;
    private static int wrong = 0;

    private static void due(String what, long got, long want) {
        if (got != want) {
            wrong++;
            if (wrong < 30) {
                System.out.println(what + " answered " + got + ", due is " + want);
            }
        }
    }

    // ---- all sets of dots

    private static int w, h, dots, links;
    private static final int[] shade = new int[MOST_DOTS_GONE_THROUGH], mark = new int[MOST_DOTS_GONE_THROUGH];
    private static final int[] in = new int[MOST_DOTS_GONE_THROUGH], out = new int[MOST_DOTS_GONE_THROUGH];
    private static final int[] one = new int[64], other = new int[64], kind = new int[64], weight = new int[64];

    // what goes through all sets finds
    private static int least;
    private static long inAll, inOne;
    private static final boolean[] someCut = new boolean[64], someDoNot = new boolean[64];

    private static StrokeCuts drawPicture(Random random) {
        do {
            w = 2 + random.nextInt(5);
            h = 2 + random.nextInt(5);
        } while (w * h > MOST_DOTS_GONE_THROUGH);
        dots = w * h;
        StrokeCuts c = new StrokeCuts();
        c.picture(w, h);
        // few shades and weak pulls, so that there are many best ones
        int shades = 1 + random.nextInt(random.nextBoolean() ? 3 : 10);
        int[] settings = {1 + random.nextInt(random.nextBoolean() ? 5 : 50), random.nextInt(4),
            random.nextInt(3) * random.nextInt(random.nextBoolean() ? 2 : 5), random.nextInt(10), random.nextInt(10), 4 + 4 * random.nextInt(2)};
        for (int what = 0; what < settings.length; what++) {
            c.sets(what, settings[what]);
        }
        for (int k = 0; k < dots; k++) {
            shade[k] = random.nextInt(shades);
            mark[k] = random.nextInt(5) == 0 ? 1 + random.nextInt(2) : 0;
            c.shade(k % w, k / w, shade[k]);
            c.mark(k % w, k / w, mark[k]);
            in[k] = settings[2] * Math.abs(shade[k] - settings[3]);
            out[k] = settings[2] * Math.abs(shade[k] - settings[4]);
        }
        layLinks(settings);
        return c;
    }

    private static void layLinks(int[] settings) {
        links = 0;
        for (int k = 0; k < dots; k++) {
            boolean right = k % w < w - 1, below = k / w < h - 1, left = k % w > 0;
            boolean[] there = {right, below, settings[5] == 8 && below && right, settings[5] == 8 && below && left};
            int[] steps = {1, w, w + 1, w - 1};
            for (int d = 0; d < 4; d++) {
                if (there[d]) {
                    one[links] = k;
                    other[links] = k + steps[d];
                    kind[links] = d;
                    int v = Math.max(1, settings[0] - settings[1] * Math.abs(shade[k] - shade[other[links]]));
                    weight[links] = d < 2 ? v : Math.max(1, v / 2);
                    links++;
                }
            }
        }
    }

    private static boolean isCut(long set, int link) {
        return (set >>> one[link] & 1) != (set >>> other[link] & 1);
    }

    // -1: no cut-out
    private static int costOf(long set) {
        int sum = 0;
        for (int k = 0; k < dots; k++) {
            boolean within = (set >>> k & 1) == 1;
            if (mark[k] != 0 && within != (mark[k] == 1)) {
                return -1;
            }
            sum += within ? in[k] : out[k];
        }
        for (int i = 0; i < links; i++) {
            sum += isCut(set, i) ? weight[i] : 0;
        }
        return sum;
    }

    private static int leastOfAll() {
        int found = Integer.MAX_VALUE;
        for (long set = 0; set < 1L << dots; set++) {
            int cost = costOf(set);
            if (cost >= 0 && cost < found) {
                found = cost;
            }
        }
        return found;
    }

    private static void goThroughAll() {
        least = leastOfAll();
        inAll = (1L << dots) - 1;
        inOne = 0;
        for (int i = 0; i < links; i++) {
            someCut[i] = false;
            someDoNot[i] = false;
        }
        for (long set = 0; set < 1L << dots; set++) {
            if (costOf(set) == least) {
                inAll &= set;
                inOne |= set;
                for (int i = 0; i < links; i++) {
                    someCut[i] |= isCut(set, i);
                    someDoNot[i] |= !isCut(set, i);
                }
            }
        }
    }

    private static void cutOutsOf(StrokeCuts c, String name) {
        goThroughAll();
        due(name + "cost", c.cost(), least);
        due(name + "side 0", c.side(0), inAll);
        due(name + "side 1", c.side(1), inOne);
        due(name + "costs of the least one", c.costs(inAll), least);
        due(name + "costs of the greatest one", c.costs(inOne), least);
        for (int k = 0; k < dots; k++) {
            int sure = (inAll >>> k & 1) == 1 ? 1 : (inOne >>> k & 1) == 0 ? 0 : 2;
            due(name + "sure of dot " + k, c.sure(k % w, k / w), sure);
        }
        for (int i = 0; i < links; i++) {
            int tight = !someCut[i] ? 0 : someDoNot[i] ? 1 : 2;
            due(name + "tight of link " + i, c.tight(one[i] % w, one[i] / w, kind[i]), tight);
            due(name + "link " + i, c.link(one[i] % w, one[i] / w, kind[i]), weight[i]);
        }
    }

    private static void otherwiseOf(StrokeCuts c, String name, Random random) {
        int k = random.nextInt(dots), wasMark = mark[k];
        for (int m = 0; m < 3; m++) {
            mark[k] = m;
            due(name + "were " + k + " " + m, c.were(k % w, k / w, m), leastOfAll());
        }
        mark[k] = wasMark;
        int i = random.nextInt(links), wasWeight = weight[i];
        for (int v : new int[] {0, 1, random.nextInt(100), 99}) {
            weight[i] = v;
            due(name + "strain " + i + " " + v, c.strain(one[i] % w, one[i] / w, kind[i], v), leastOfAll());
        }
        weight[i] = wasWeight;
        long set = random.nextLong() & (1L << dots) - 1;
        int cost = costOf(set);
        due(name + "costs " + set, c.costs(set), cost < 0 ? -3 : cost);
        due(name + "cost behind all that", c.cost(), least);
    }

    private static void allSets() {
        for (int picture = 0; picture < PICTURES; picture++) {
            Random random = new Random(500 + picture);
            StrokeCuts c = drawPicture(random);
            String name = "picture " + picture + " of " + w + " times " + h + ": ";
            cutOutsOf(c, name);
            otherwiseOf(c, name, random);
        }
    }

    // ---- all lines

    // the whole number nearest to share by n; of two as near the greater one
    private static int nearest(int share, int n) {
        int found = -9;
        for (int q = -9; q <= 9; q++) {
            if (Math.abs(share - q * n) <= Math.abs(share - found * n)) {
                found = q;
            }
        }
        return found;
    }

    private static void oneLine(int x, int y, int toX, int toY) {
        StrokeCuts c = new StrokeCuts();
        c.picture(6, 6);
        int n = Math.max(Math.abs(x - toX), Math.abs(y - toY));
        boolean[] line = new boolean[36];
        for (int k = 0; k <= n; k++) {
            int atX = n == 0 ? x : x + nearest(k * (toX - x), n), atY = n == 0 ? y : y + nearest(k * (toY - y), n);
            line[6 * atY + atX] = true;
        }
        String name = "line " + x + " " + y + " " + toX + " " + toY;
        due(name, c.stroke(1, x, y, toX, toY), n + 1);
        for (int k = 0; k < 36; k++) {
            due(name + " at dot " + k, c.dot(k % 6, k / 6, 1), line[k] ? 1 : 0);
        }
        due(name + " once more", c.stroke(1, x, y, toX, toY), 0);
    }

    private static void allLines() {
        for (int from = 0; from < 36; from++) {
            for (int to = 0; to < 36; to++) {
                oneLine(from % 6, from / 6, to % 6, to / 6);
            }
        }
    }

    // ---- short texts, in a picture of 2 times 3 dots

    private static final Pattern WITHOUT_FAULT = Pattern.compile(
        ("(_([fgn]_[01]_[012]_([01]_[012]_)?|s_[01]_[012]_[0-9]_|l_[1-9]_);_)+").replace("_", " *"));

    // a byte can stand if something behind it can still make a text without a fault
    private static int faultOf(String text) {
        for (int i = 1; i <= text.length(); i++) {
            Matcher m = WITHOUT_FAULT.matcher(text.substring(0, i));
            if (!m.matches() && !m.hitEnd()) {
                return i - 1;
            }
        }
        return WITHOUT_FAULT.matcher(text).matches() ? -1 : text.length();
    }

    private static void oneText(String text) {
        StrokeCuts c = new StrokeCuts();
        c.picture(2, 3);
        for (int i = 0; i < text.length(); i++) {
            c.type(text.charAt(i));
        }
        int fault = faultOf(text);
        long orders = text.chars().filter(sign -> sign == ';').count();
        due("text '" + text + "'", c.does(), fault < 0 ? orders : -10 - fault);
        due("states behind text '" + text + "'", c.told(12), fault < 0 ? 2 : 1);
    }

    // a text whose fault stands ahead of its last byte goes on to have that fault, so no byte more is tried behind it
    private static void textsFrom(String text) {
        oneText(text);
        int fault = faultOf(text);
        if (text.length() < MOST_SIGNS && (fault < 0 || fault >= text.length() - 1)) {
            for (int i = 0; i < SIGNS.length(); i++) {
                textsFrom(text + SIGNS.charAt(i));
            }
        }
    }

    public static void main(String[] args) {
        allSets();
        allLines();
        textsFrom("");
        System.out.println(wrong == 0 ? "all answers are as due" : wrong + " answers are not as due");
        if (wrong != 0) {
            System.exit(1);
        }
    }
}
