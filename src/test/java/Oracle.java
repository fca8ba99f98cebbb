import java.util.ArrayDeque;
import java.util.Arrays;

/**
 * The document once more, in another way than the class: least costs by going through all rows of figure and ground, what is
 * sure or tight by forcing dots, sets as rows of booleans, the text by one expression for each order.
 */
final class Oracle {
    private static final int FAR = 1 << 28;

    private static final class State {
        int w = 4, h = 4;
        int[] set = {10, 2, 1, 0, 9, 4};
        int[] shade = new int[16], mark = new int[16];

        State copy() {
            State c = new State();
            c.w = w;
            c.h = h;
            c.set = set.clone();
            c.shade = shade.clone();
            c.mark = mark.clone();
            return c;
        }
    }

    private State s = new State();
    private final ArrayDeque<State> past = new ArrayDeque<>();
    private final StringBuilder text = new StringBuilder();
    private final int[] refused = new int[3];

    // a link whose weight is another one for the time of one call
    private int strainedDot = -1, strainedLink = -1, strainedWeight;

    private int refuse(int why) {
        refused[-2 - why]++;
        return why;
    }

    private void keepState() {
        past.addLast(s.copy());
        if (past.size() > 8) {
            past.removeFirst();
        }
    }

    private boolean isDot(int x, int y) {
        return 0 <= x && x < s.w && 0 <= y && y < s.h;
    }

    private int at(int x, int y) {
        return s.w * y + x;
    }

    int picture(int w, int h) {
        if (w < 2 || w > 6 || h < 2 || h > 6) return refuse(-2);
        keepState();
        s.w = w;
        s.h = h;
        s.shade = new int[w * h];
        s.mark = new int[w * h];
        return w * h;
    }

    int shade(int x, int y, int v) {
        if (!isDot(x, y) || v < 0 || v > 9) return refuse(-2);
        keepState();
        int was = s.shade[at(x, y)];
        s.shade[at(x, y)] = v;
        return was;
    }

    int draws(int seed, int n) {
        if (seed < 0 || seed > 999999 || n < 1 || n > 10) return refuse(-2);
        keepState();
        java.math.BigInteger drawn = java.math.BigInteger.valueOf(seed);
        for (int k = 0; k < s.shade.length; k++) {
            drawn = drawn.multiply(java.math.BigInteger.valueOf(1103515245)).add(java.math.BigInteger.valueOf(12345))
                    .mod(java.math.BigInteger.valueOf(2147483648L));
            s.shade[k] = (int) (drawn.longValue() / 65536 % n);
        }
        return Arrays.stream(s.shade).sum();
    }

    int blot(int x, int y, int r, int v) {
        if (!isDot(x, y) || r < 0 || r > 10 || v < 0 || v > 9) return refuse(-2);
        keepState();
        int count = 0;
        for (int k = 0; k < s.shade.length; k++) {
            if (Math.abs(k % s.w - x) + Math.abs(k / s.w - y) <= r) {
                s.shade[k] = v;
                count++;
            }
        }
        return count;
    }

    int mark(int x, int y, int m) {
        if (!isDot(x, y) || m < 0 || m > 2) return refuse(-2);
        keepState();
        int was = s.mark[at(x, y)];
        s.mark[at(x, y)] = m;
        return was;
    }

    int stroke(int m, int x, int y, int toX, int toY) {
        if (m < 0 || m > 2 || !isDot(x, y) || !isDot(toX, toY)) return refuse(-2);
        keepState();
        return line(m, x, y, toX, toY);
    }

    private int line(int m, int x, int y, int toX, int toY) {
        int n = Math.max(Math.abs(x - toX), Math.abs(y - toY));
        int changed = 0;
        for (int k = 0; k <= n; k++) {
            int px = n == 0 ? x : (int) Math.floor(x + (double) k * (toX - x) / n + 0.5);
            int py = n == 0 ? y : (int) Math.floor(y + (double) k * (toY - y) / n + 0.5);
            if (s.mark[at(px, py)] != m) changed++;
            s.mark[at(px, py)] = m;
        }
        return changed;
    }

    int sets(int what, int v) {
        boolean fits;
        if (what == 0) fits = v >= 1 && v <= 50;
        else if (what == 5) fits = v == 4 || v == 8;
        else fits = what >= 1 && what <= 4 && v >= 0 && v <= 9;
        if (!fits) return refuse(-2);
        keepState();
        int was = s.set[what];
        s.set[what] = v;
        return was;
    }

    int dot(int x, int y, int what) {
        if (!isDot(x, y) || what < 0 || what > 3) return refuse(-2);
        int k = at(x, y);
        if (what == 0) return s.shade[k];
        if (what == 1) return s.mark[k];
        return pull(k, what == 2);
    }

    private int pull(int k, boolean in) {
        return s.set[2] * Math.abs(s.shade[k] - s.set[in ? 3 : 4]);
    }

    int link(int x, int y, int d) {
        if (!isDot(x, y) || d < 0 || d > 3) return refuse(-2);
        return weight(x, y, d);
    }

    private int otherEnd(int x, int y, int d) {
        int ox = d == 0 || d == 2 ? x + 1 : d == 3 ? x - 1 : x;
        int oy = d == 0 ? y : y + 1;
        return isDot(ox, oy) && (d < 2 || s.set[5] == 8) ? at(ox, oy) : -1;
    }

    private int weight(int x, int y, int d) {
        int other = otherEnd(x, y, d);
        if (other < 0) return -1;
        if (at(x, y) == strainedDot && d == strainedLink) return strainedWeight;
        int weight = s.set[0] - s.set[1] * Math.abs(s.shade[at(x, y)] - s.shade[other]);
        if (weight < 1) weight = 1;
        if (d > 1) weight = weight / 2;
        return weight < 1 ? 1 : weight;
    }

    private int[][] inRow;
    private int[][][] toNextRow;

    // what each row costs in itself, and each pair of rows between them
    private void prepareRows() {
        int n = 1 << s.w;
        inRow = new int[s.h][n];
        toNextRow = new int[s.h][n][n];
        for (int y = 0; y < s.h; y++) {
            for (int a = 0; a < n; a++) {
                for (int x = 0; x < s.w; x++) {
                    boolean in = (a >> x & 1) == 1;
                    inRow[y][a] += pull(at(x, y), in);
                    if (x + 1 < s.w && in != ((a >> x + 1 & 1) == 1)) inRow[y][a] += weight(x, y, 0);
                }
                for (int b = 0; y + 1 < s.h && b < n; b++) {
                    toNextRow[y][a][b] = between(y, a, b);
                }
            }
        }
    }

    private int between(int y, int a, int b) {
        int sum = 0;
        for (int x = 0; x < s.w; x++) {
            int in = a >> x & 1;
            for (int d = 1; d < 4; d++) {
                int ox = d == 1 ? x : d == 2 ? x + 1 : x - 1;
                if (otherEnd(x, y, d) >= 0 && in != (b >> ox & 1)) sum += weight(x, y, d);
            }
        }
        return sum;
    }

    private int least(int[] marks) {
        int n = 1 << s.w;
        int[] best = new int[n];
        for (int y = 0; y < s.h; y++) {
            int[] now = new int[n];
            for (int a = 0; a < n; a++) {
                now[a] = FAR;
                if (!fits(a, y, marks)) continue;
                int before = y == 0 ? 0 : FAR;
                for (int b = 0; y > 0 && b < n; b++) before = Math.min(before, best[b] + toNextRow[y - 1][b][a]);
                now[a] = before + inRow[y][a];
            }
            best = now;
        }
        return Arrays.stream(best).min().getAsInt();
    }

    private boolean fits(int a, int y, int[] marks) {
        for (int x = 0; x < s.w; x++) {
            int m = marks[at(x, y)];
            if (m != 0 && (m == 1) != ((a >> x & 1) == 1)) return false;
        }
        return true;
    }

    // least cost if some dots are forced on top of their marks; FAR if a mark is against that
    private int forced(int... dotsAndMarks) {
        int[] marks = s.mark.clone();
        for (int i = 0; i < dotsAndMarks.length; i += 2) {
            int k = dotsAndMarks[i];
            if (marks[k] != 0 && marks[k] != dotsAndMarks[i + 1]) return FAR;
            marks[k] = dotsAndMarks[i + 1];
        }
        return least(marks);
    }

    int cost() {
        prepareRows();
        return least(s.mark);
    }

    long side(int what) {
        if (what != 0 && what != 1) return refuse(-2);
        int c = cost();
        long set = 0;
        for (int k = 0; k < s.mark.length; k++) {
            boolean in = what == 0 ? forced(k, 2) > c : forced(k, 1) == c;
            if (in) set |= 1L << k;
        }
        return set;
    }

    int sure(int x, int y) {
        if (!isDot(x, y)) return refuse(-2);
        int c = cost();
        boolean canBeIn = forced(at(x, y), 1) == c, canBeOut = forced(at(x, y), 2) == c;
        return canBeIn && canBeOut ? 2 : canBeIn ? 1 : 0;
    }

    int were(int x, int y, int m) {
        if (!isDot(x, y) || m < 0 || m > 2) return refuse(-2);
        int[] marks = s.mark.clone();
        marks[at(x, y)] = m;
        prepareRows();
        return least(marks);
    }

    int strain(int x, int y, int d, int v) {
        if (!isDot(x, y) || d < 0 || d > 3 || v < 0 || v > 99) return refuse(-2);
        if (otherEnd(x, y, d) < 0) return -1;
        strainedDot = at(x, y);
        strainedLink = d;
        strainedWeight = v;
        int c = cost();
        strainedDot = -1;
        return c;
    }

    int tight(int x, int y, int d) {
        if (!isDot(x, y) || d < 0 || d > 3) return refuse(-2);
        int a = at(x, y), b = otherEnd(x, y, d);
        if (b < 0) return -1;
        int c = cost();
        boolean cut = forced(a, 1, b, 2) == c || forced(a, 2, b, 1) == c;
        boolean uncut = forced(a, 1, b, 1) == c || forced(a, 2, b, 2) == c;
        return !cut ? 0 : uncut ? 1 : 2;
    }

    int costs(long set) {
        for (int k = 0; k < 64; k++) {
            if ((set >>> k & 1) == 1 && k >= s.mark.length) return refuse(-2);
        }
        int[] marks = new int[s.mark.length];
        for (int k = 0; k < marks.length; k++) {
            marks[k] = (set >>> k & 1) == 1 ? 1 : 2;
            if (s.mark[k] != 0 && s.mark[k] != marks[k]) return refuse(-3);
        }
        prepareRows();
        return least(marks);
    }

    private boolean[] leastOne() {
        long set = side(0);
        boolean[] in = new boolean[s.mark.length];
        for (int k = 0; k < in.length; k++) in[k] = (set >>> k & 1) == 1;
        return in;
    }

    int shape(int what) {
        if (what < 0 || what > 7) return refuse(-2);
        boolean[] in = leastOne();
        if (what == 1) return pieces(in, true, false);
        if (what == 2) return pieces(in, false, true);
        if (what == 3) return edges(in);
        int count = 0, minX = 99, minY = 99, maxX = -1, maxY = -1;
        for (int k = 0; k < in.length; k++) {
            if (!in[k]) continue;
            count++;
            minX = Math.min(minX, k % s.w);
            maxX = Math.max(maxX, k % s.w);
            minY = Math.min(minY, k / s.w);
            maxY = Math.max(maxY, k / s.w);
        }
        if (what == 0) return count;
        return count == 0 ? -1 : what == 4 ? minX : what == 5 ? minY : what == 6 ? maxX : maxY;
    }

    private boolean same(boolean[] in, int x, int y, boolean wanted) {
        return isDot(x, y) && in[at(x, y)] == wanted;
    }

    private int edges(boolean[] in) {
        int sum = 0;
        for (int y = 0; y < s.h; y++) {
            for (int x = 0; x < s.w; x++) {
                if (!in[at(x, y)]) continue;
                if (!same(in, x - 1, y, true)) sum++;
                if (!same(in, x + 1, y, true)) sum++;
                if (!same(in, x, y - 1, true)) sum++;
                if (!same(in, x, y + 1, true)) sum++;
            }
        }
        return sum;
    }

    private boolean touchesBorder;

    private int pieces(boolean[] in, boolean wanted, boolean insideOnly) {
        boolean[] seen = new boolean[in.length];
        int count = 0;
        for (int k = 0; k < in.length; k++) {
            if (in[k] != wanted || seen[k]) continue;
            touchesBorder = false;
            walk(in, seen, k % s.w, k / s.w, wanted);
            if (!insideOnly || !touchesBorder) count++;
        }
        return count;
    }

    private void walk(boolean[] in, boolean[] seen, int x, int y, boolean wanted) {
        if (!same(in, x, y, wanted) || seen[at(x, y)]) return;
        seen[at(x, y)] = true;
        if (x == 0 || y == 0 || x == s.w - 1 || y == s.h - 1) touchesBorder = true;
        walk(in, seen, x + 1, y, wanted);
        walk(in, seen, x - 1, y, wanted);
        walk(in, seen, x, y + 1, wanted);
        walk(in, seen, x, y - 1, wanted);
    }

    int learns(int n) {
        if (n < 1 || n > 20) return refuse(-2);
        keepState();
        return learn(n);
    }

    private int learn(int n) {
        int changed = 0;
        for (int round = 0; round < n; round++) {
            boolean[] in = leastOne();
            int[] sum = new int[2], count = new int[2];
            for (int k = 0; k < in.length; k++) {
                sum[in[k] ? 0 : 1] += s.shade[k];
                count[in[k] ? 0 : 1]++;
            }
            int figure = count[0] == 0 ? s.set[3] : sum[0] / count[0];
            int ground = count[1] == 0 ? s.set[4] : sum[1] / count[1];
            if (figure == s.set[3] && ground == s.set[4]) return changed;
            s.set[3] = figure;
            s.set[4] = ground;
            changed++;
        }
        return changed;
    }

    int keeps() {
        keepState();
        boolean[] in = leastOne();
        int count = 0;
        for (int k = 0; k < in.length; k++) {
            if (s.mark[k] == 0) {
                s.mark[k] = in[k] ? 1 : 2;
                count++;
            }
        }
        return count;
    }

    int turns() {
        keepState();
        int count = 0;
        for (int k = 0; k < s.mark.length; k++) {
            if (s.mark[k] != 0) {
                s.mark[k] = 3 - s.mark[k];
                count++;
            }
        }
        int tone = s.set[3];
        s.set[3] = s.set[4];
        s.set[4] = tone;
        return count;
    }

    int type(int c) {
        if (c < 0 || c > 127) return refuse(-2);
        if (text.length() == 100) return refuse(-4);
        text.append((char) c);
        return text.length();
    }

    int clear() {
        int had = text.length();
        text.setLength(0);
        return had;
    }

    // what may stand next, told by all that stands in the order so far, each figure as its own value
    private boolean canStand(String order, char c) {
        if (order.isEmpty()) return "fgnsl".indexOf(c) >= 0;
        int figures = order.length() - 1;
        boolean isX = c >= '0' && c < '0' + s.w, isY = c >= '0' && c < '0' + s.h;
        switch (order.charAt(0)) {
            case 'l':
                return figures == 0 ? c >= '1' && c <= '9' : c == ';';
            case 's':
                return figures == 0 ? isX : figures == 1 ? isY : figures == 2 ? c >= '0' && c <= '9' : c == ';';
            default:
                return figures == 0 ? isX : figures == 1 ? isY : figures == 2 ? isX || c == ';' : figures == 3 ? isY : c == ';';
        }
    }

    private int fault() {
        String order = "";
        boolean one = false;
        for (int i = 0; i < text.length(); i++) {
            char c = text.charAt(i);
            if (c == ' ') continue;
            if (!canStand(order, c)) return i;
            one |= c == ';';
            order = c == ';' ? "" : order + c;
        }
        return order.isEmpty() && one ? -1 : text.length();
    }

    int does() {
        int fault = fault();
        if (fault >= 0) return -10 - fault;
        keepState();
        String[] orders = text.toString().replace(" ", "").split(";");
        for (String order : orders) {
            int[] v = order.substring(1).chars().map(c -> c - '0').toArray();
            char kind = order.charAt(0);
            if (kind == 'l') learn(v[0]);
            else if (kind == 's') s.shade[at(v[0], v[1])] = v[2];
            else line("nfg".indexOf(kind), v[0], v[1], v[v.length - 2], v[v.length - 1]);
        }
        return orders.length;
    }

    int back() {
        if (past.isEmpty()) return refuse(-3);
        s = past.removeLast();
        return past.size();
    }

    int told(int what) {
        if (what < 0 || what > 12) return refuse(-2);
        if (what < 3) return refused[what];
        if (what == 3) return s.w;
        if (what == 4) return s.h;
        if (what == 11) return text.length();
        return what == 12 ? past.size() : s.set[what - 5];
    }

    long digest() {
        long h = 1744;
        for (int what = 0; what <= 12; what++) h = 31 * h + told(what);
        for (int k = 0; k < s.mark.length; k++) h = 31 * (31 * h + s.shade[k]) + s.mark[k];
        h = 31 * h + cost();
        h = 31 * h + side(0);
        return 31 * h + side(1);
    }
}
