/** A figure cut out of a picture of shades by strokes. The document ../shared/DOC.md tells what each call promises. */
public final class StrokeCuts {
    public static final int NONE = -1, BAD = -2, NO = -3, FULL = -4;

    private static final int LEAST_SIDE = 2, GREATEST_SIDE = 6;
    private static final int MOST_DOTS = GREATEST_SIDE * GREATEST_SIDE;
    private static final int NO_MARK = 0, FIGURE = 1, GROUND = 2;
    private static final int GREATEST_SHADE = 9;

    private static final int HARD = 0, SLOPE = 1, PULL = 2, FIGURE_TONE = 3, GROUND_TONE = 4, NEAR = 5;
    private static final int SETTINGS = 6;
    private static final int[] LEAST_SETTING = {1, 0, 0, 0, 0, 4};
    private static final int[] GREATEST_SETTING = {50, 9, 9, 9, 9, 8};

    private static final int LINKS = 4;
    private static final int[] LINK_X = {1, 0, 1, -1};
    private static final int[] LINK_Y = {0, 1, 1, 1};

    private static final int MOST_STRAIN = 99, MOST_ROUNDS = 20, MOST_SEED = 999999, MOST_DRAWN = 10, MOST_RADIUS = 10;
    private static final int MOST_BYTE = 127, FAULT_BASE = -10;
    private static final int TOLD_SETTINGS = 5, TOLD_END = 13;

    private final Scene scene;
    private final History past;
    private final Network network;
    private final Script script;
    private int badCalls;
    private int noCalls;
    private int fullCalls;

    public StrokeCuts() {
        scene = new Scene();
        past = new History();
        network = new Network();
        script = new Script();
    }

    // ---- the picture

    public int picture(int w, int h) {
        if (!isWithin(w, LEAST_SIDE, GREATEST_SIDE) || !isWithin(h, LEAST_SIDE, GREATEST_SIDE)) {
            return refuseBad();
        }
        past.remember(scene);
        scene.startBlank(w, h);
        return scene.dots();
    }

    public int shade(int x, int y, int v) {
        if (!scene.hasDot(x, y) || !isWithin(v, 0, GREATEST_SHADE)) {
            return refuseBad();
        }
        past.remember(scene);
        int number = scene.numberOf(x, y);
        int before = scene.shades[number];
        scene.shades[number] = v;
        return before;
    }

    public int draws(int seed, int n) {
        if (!isWithin(seed, 0, MOST_SEED) || !isWithin(n, 1, MOST_DRAWN)) {
            return refuseBad();
        }
        past.remember(scene);
        long drawn = seed;
        int sum = 0;
        for (int k = 0; k < scene.dots(); k++) {
            drawn = (drawn * 1103515245L + 12345L) % 2147483648L;
            scene.shades[k] = (int) (drawn / 65536L % n);
            sum += scene.shades[k];
        }
        return sum;
    }

    public int blot(int x, int y, int r, int v) {
        if (!scene.hasDot(x, y) || !isWithin(r, 0, MOST_RADIUS) || !isWithin(v, 0, GREATEST_SHADE)) {
            return refuseBad();
        }
        past.remember(scene);
        return scene.shadeAround(x, y, r, v);
    }

    public int mark(int x, int y, int m) {
        if (!scene.hasDot(x, y) || !isWithin(m, NO_MARK, GROUND)) {
            return refuseBad();
        }
        past.remember(scene);
        int number = scene.numberOf(x, y);
        int before = scene.marks[number];
        scene.marks[number] = m;
        return before;
    }

    public int stroke(int m, int x, int y, int toX, int toY) {
        if (!isWithin(m, NO_MARK, GROUND) || !scene.hasDot(x, y) || !scene.hasDot(toX, toY)) {
            return refuseBad();
        }
        past.remember(scene);
        return scene.markAll(scene.lineOf(x, y, toX, toY), m);
    }

    public int sets(int what, int v) {
        if (!isSettingOf(what, v)) {
            return refuseBad();
        }
        past.remember(scene);
        int before = scene.settings[what];
        scene.settings[what] = v;
        return before;
    }

    public int dot(int x, int y, int what) {
        if (!scene.hasDot(x, y)) {
            return refuseBad();
        }
        int number = scene.numberOf(x, y);
        switch (what) {
            case 0: return scene.shades[number];
            case 1: return scene.marks[number];
            case 2: return scene.pullFrom(number, FIGURE_TONE);
            case 3: return scene.pullFrom(number, GROUND_TONE);
            default: return refuseBad();
        }
    }

    public int link(int x, int y, int d) {
        if (!isLinkPlace(x, y, d)) {
            return refuseBad();
        }
        int other = scene.linkedTo(x, y, d);
        return other == NONE ? NONE : scene.weightOf(scene.numberOf(x, y), other, d);
    }

    // ---- cut-outs

    public int cost() {
        return network.solve(scene);
    }

    public long side(int what) {
        if (!isWithin(what, 0, 1)) {
            return refuseBad();
        }
        network.solve(scene);
        return what == 0 ? network.leastSet() : network.greatestSet();
    }

    public int sure(int x, int y) {
        if (!scene.hasDot(x, y)) {
            return refuseBad();
        }
        network.solve(scene);
        int number = scene.numberOf(x, y);
        if (has(network.leastSet(), number)) {
            return 1;
        }
        return has(network.greatestSet(), number) ? 2 : 0;
    }

    public int were(int x, int y, int m) {
        if (!scene.hasDot(x, y) || !isWithin(m, NO_MARK, GROUND)) {
            return refuseBad();
        }
        network.load(scene);
        network.loadPulls(scene, scene.numberOf(x, y), m);
        return network.fill();
    }

    public int strain(int x, int y, int d, int v) {
        if (!isLinkPlace(x, y, d) || !isWithin(v, 0, MOST_STRAIN)) {
            return refuseBad();
        }
        int other = scene.linkedTo(x, y, d);
        if (other == NONE) {
            return NONE;
        }
        network.load(scene);
        network.join(scene.numberOf(x, y), other, d, v);
        return network.fill();
    }

    public int tight(int x, int y, int d) {
        if (!isLinkPlace(x, y, d)) {
            return refuseBad();
        }
        int other = scene.linkedTo(x, y, d);
        if (other == NONE) {
            return NONE;
        }
        int one = scene.numberOf(x, y);
        network.solve(scene);
        if (network.alwaysParts(one, other) || network.alwaysParts(other, one)) {
            return 2;
        }
        return network.mayPart(one, other) || network.mayPart(other, one) ? 1 : 0;
    }

    public int costs(long set) {
        if ((set & ~scene.allDots()) != 0) {
            return refuseBad();
        }
        if (!scene.isCutOut(set)) {
            noCalls++;
            return NO;
        }
        return scene.costOf(set);
    }

    public int shape(int what) {
        if (!isWithin(what, 0, 7)) {
            return refuseBad();
        }
        network.solve(scene);
        long set = network.leastSet();
        switch (what) {
            case 0: return Long.bitCount(set);
            case 1: return scene.pieces(set);
            case 2: return scene.holes(set);
            case 3: return scene.edges(set);
            case 4: return scene.firstColumn(set);
            case 5: return scene.firstRow(set);
            case 6: return scene.lastColumn(set);
            default: return scene.lastRow(set);
        }
    }

    // ---- what is done with them

    public int learns(int n) {
        if (!isWithin(n, 1, MOST_ROUNDS)) {
            return refuseBad();
        }
        past.remember(scene);
        return learnRounds(n);
    }

    public int keeps() {
        past.remember(scene);
        network.solve(scene);
        return scene.markRest(network.leastSet());
    }

    public int turns() {
        past.remember(scene);
        return scene.swapSides();
    }

    // ---- texts

    public int type(int c) {
        if (!isWithin(c, 0, MOST_BYTE)) {
            return refuseBad();
        }
        if (!script.takeByte(c)) {
            fullCalls++;
            return FULL;
        }
        return script.length;
    }

    public int clear() {
        int before = script.length;
        script.length = 0;
        return before;
    }

    public int does() {
        int fault = script.findFault(scene.width, scene.height);
        if (fault != NONE) {
            return FAULT_BASE - fault;
        }
        past.remember(scene);
        int orders = script.orders;
        script.rewind();
        for (int done = 0; done < orders; done++) {
            if (script.readOrder(scene.width, scene.height)) {
                obeyOrder();
            }
        }
        return orders;
    }

    public int back() {
        if (past.count == 0) {
            noCalls++;
            return NO;
        }
        past.giveBack(scene);
        return past.count;
    }

    public int told(int what) {
        if (!isWithin(what, 0, TOLD_END - 1)) {
            return refuseBad();
        }
        switch (what) {
            case 0: return badCalls;
            case 1: return noCalls;
            case 2: return fullCalls;
            case 3: return scene.width;
            case 4: return scene.height;
            case 11: return script.length;
            case 12: return past.count;
            default: return scene.settings[what - TOLD_SETTINGS];
        }
    }

    public long digest() {
        long h = 1744;
        for (int what = 0; what < TOLD_END; what++) {
            h = 31 * h + told(what);
        }
        for (int k = 0; k < scene.dots(); k++) {
            h = 31 * h + scene.shades[k];
            h = 31 * h + scene.marks[k];
        }
        h = 31 * h + network.solve(scene);
        h = 31 * h + network.leastSet();
        return 31 * h + network.greatestSet();
    }

    private int refuseBad() {
        badCalls++;
        return BAD;
    }

    private boolean isLinkPlace(int x, int y, int d) {
        return scene.hasDot(x, y) && isWithin(d, 0, LINKS - 1);
    }

    private int learnRounds(int rounds) {
        int changed = 0;
        for (int round = 0; round < rounds; round++) {
            network.solve(scene);
            if (!scene.learnTones(network.leastSet())) {
                break;
            }
            changed++;
        }
        return changed;
    }

    private void obeyOrder() {
        int x = script.number(0);
        int y = script.number(1);
        switch (script.kind) {
            case 'f': markLine(x, y, FIGURE); break;
            case 'g': markLine(x, y, GROUND); break;
            case 'n': markLine(x, y, NO_MARK); break;
            case 's': scene.shades[scene.numberOf(x, y)] = script.number(2); break;
            default: learnRounds(script.number(0));
        }
    }

    private void markLine(int x, int y, int m) {
        boolean isLong = script.numberCount == 4;
        int toX = isLong ? script.number(2) : x;
        int toY = isLong ? script.number(3) : y;
        scene.markAll(scene.lineOf(x, y, toX, toY), m);
    }

    private static boolean isWithin(int v, int least, int greatest) {
        return v >= least && v <= greatest;
    }

    private static boolean isSettingOf(int what, int v) {
        if (!isWithin(what, 0, SETTINGS - 1) || !isWithin(v, LEAST_SETTING[what], GREATEST_SETTING[what])) {
            return false;
        }
        return what != NEAR || v == LEAST_SETTING[NEAR] || v == GREATEST_SETTING[NEAR];
    }

    private static boolean has(long set, int number) {
        return (set >>> number & 1L) != 0;
    }

    /** All that a STATE holds: the picture with its shades and marks, and HARD to NEAR. */
    private static final class Scene {
        int width;
        int height;
        final int[] settings = {10, 2, 1, 0, 9, 4};
        final int[] shades = new int[MOST_DOTS];
        final int[] marks = new int[MOST_DOTS];

        Scene() {
            width = 4;
            height = 4;
        }

        void copyFrom(Scene other) {
            width = other.width;
            height = other.height;
            System.arraycopy(other.settings, 0, settings, 0, SETTINGS);
            System.arraycopy(other.shades, 0, shades, 0, MOST_DOTS);
            System.arraycopy(other.marks, 0, marks, 0, MOST_DOTS);
        }

        void startBlank(int w, int h) {
            width = w;
            height = h;
            for (int k = 0; k < MOST_DOTS; k++) {
                shades[k] = 0;
                marks[k] = NO_MARK;
            }
        }

        int dots() {
            return width * height;
        }

        long allDots() {
            return (1L << dots()) - 1;
        }

        boolean hasDot(int x, int y) {
            return x >= 0 && x < width && y >= 0 && y < height;
        }

        int numberOf(int x, int y) {
            return width * y + x;
        }

        int linkedTo(int x, int y, int d) {
            if (d >= 2 && settings[NEAR] != 8) {
                return NONE;
            }
            int otherX = x + LINK_X[d];
            int otherY = y + LINK_Y[d];
            return hasDot(otherX, otherY) ? numberOf(otherX, otherY) : NONE;
        }

        int weightOf(int one, int other, int d) {
            int apart = Math.abs(shades[one] - shades[other]);
            int weight = Math.max(1, settings[HARD] - settings[SLOPE] * apart);
            return d < 2 ? weight : Math.max(1, weight / 2);
        }

        int pullFrom(int number, int tone) {
            return settings[PULL] * Math.abs(shades[number] - settings[tone]);
        }

        int shadeAround(int x, int y, int r, int v) {
            int count = 0;
            for (int atY = 0; atY < height; atY++) {
                for (int atX = 0; atX < width; atX++) {
                    if (Math.abs(atX - x) + Math.abs(atY - y) <= r) {
                        shades[numberOf(atX, atY)] = v;
                        count++;
                    }
                }
            }
            return count;
        }

        long lineOf(int x, int y, int toX, int toY) {
            int steps = Math.max(Math.abs(toX - x), Math.abs(toY - y));
            if (steps == 0) {
                return 1L << numberOf(x, y);
            }
            long line = 0;
            for (int k = 0; k <= steps; k++) {
                // floor of (a share plus a half) is the nearest whole number, a half going to the greater one
                int atX = x + Math.floorDiv(2 * k * (toX - x) + steps, 2 * steps);
                int atY = y + Math.floorDiv(2 * k * (toY - y) + steps, 2 * steps);
                line |= 1L << numberOf(atX, atY);
            }
            return line;
        }

        int markAll(long set, int m) {
            int changed = 0;
            for (int k = 0; k < dots(); k++) {
                if (has(set, k) && marks[k] != m) {
                    marks[k] = m;
                    changed++;
                }
            }
            return changed;
        }

        int markRest(long figure) {
            int changed = 0;
            for (int k = 0; k < dots(); k++) {
                if (marks[k] == NO_MARK) {
                    marks[k] = has(figure, k) ? FIGURE : GROUND;
                    changed++;
                }
            }
            return changed;
        }

        int swapSides() {
            int marked = 0;
            for (int k = 0; k < dots(); k++) {
                if (marks[k] != NO_MARK) {
                    marks[k] = marks[k] == FIGURE ? GROUND : FIGURE;
                    marked++;
                }
            }
            int tone = settings[FIGURE_TONE];
            settings[FIGURE_TONE] = settings[GROUND_TONE];
            settings[GROUND_TONE] = tone;
            return marked;
        }

        boolean learnTones(long figure) {
            boolean figureChanged = learnTone(FIGURE_TONE, figure);
            boolean groundChanged = learnTone(GROUND_TONE, allDots() & ~figure);
            return figureChanged || groundChanged;
        }

        private boolean learnTone(int tone, long set) {
            int count = 0;
            int sum = 0;
            for (int k = 0; k < dots(); k++) {
                if (has(set, k)) {
                    count++;
                    sum += shades[k];
                }
            }
            int before = settings[tone];
            if (count > 0) {
                settings[tone] = sum / count;
            }
            return settings[tone] != before;
        }

        boolean isCutOut(long set) {
            for (int k = 0; k < dots(); k++) {
                if (marks[k] == (has(set, k) ? GROUND : FIGURE)) {
                    return false;
                }
            }
            return true;
        }

        int costOf(long set) {
            int sum = 0;
            for (int y = 0; y < height; y++) {
                for (int x = 0; x < width; x++) {
                    int number = numberOf(x, y);
                    sum += pullFrom(number, has(set, number) ? FIGURE_TONE : GROUND_TONE);
                    sum += linkCosts(set, x, y);
                }
            }
            return sum;
        }

        private int linkCosts(long set, int x, int y) {
            int number = numberOf(x, y);
            int sum = 0;
            for (int d = 0; d < LINKS; d++) {
                int other = linkedTo(x, y, d);
                if (other != NONE && has(set, number) != has(set, other)) {
                    sum += weightOf(number, other, d);
                }
            }
            return sum;
        }

        private long column(int x) {
            long set = 0;
            for (int y = 0; y < height; y++) {
                set |= 1L << numberOf(x, y);
            }
            return set;
        }

        private long row(int y) {
            long set = 0;
            for (int x = 0; x < width; x++) {
                set |= 1L << numberOf(x, y);
            }
            return set;
        }

        private long border() {
            return column(0) | column(width - 1) | row(0) | row(height - 1);
        }

        int pieces(long set) {
            return countPieces(set, 0);
        }

        int holes(long set) {
            return countPieces(allDots() & ~set, border());
        }

        /** Pieces with a dot in what is barred are not counted. */
        private int countPieces(long set, long barred) {
            long rest = set;
            int count = 0;
            for (int k = 0; k < dots() && rest != 0; k++) {
                long piece = pieceOf(rest & -rest, set);
                rest &= ~piece;
                if ((piece & barred) == 0) {
                    count++;
                }
            }
            return count;
        }

        private long pieceOf(long seed, long set) {
            long notFirst = ~column(0);
            long notLast = ~column(width - 1);
            long piece = seed;
            for (int k = 0; k < dots(); k++) {
                long beside = (piece & notLast) << 1 | (piece & notFirst) >>> 1;
                long grown = (piece | beside | piece << width | piece >>> width) & set;
                if (grown == piece) {
                    break;
                }
                piece = grown;
            }
            return piece;
        }

        int edges(long set) {
            long besidePairs = set & ~column(width - 1) & set >>> 1;
            long abovePairs = set & set >>> width;
            // each pair of dots in the set hides one side of both
            return 4 * Long.bitCount(set) - 2 * (Long.bitCount(besidePairs) + Long.bitCount(abovePairs));
        }

        int firstColumn(long set) {
            for (int x = 0; x < width; x++) {
                if ((set & column(x)) != 0) {
                    return x;
                }
            }
            return NONE;
        }

        int firstRow(long set) {
            for (int y = 0; y < height; y++) {
                if ((set & row(y)) != 0) {
                    return y;
                }
            }
            return NONE;
        }

        int lastColumn(long set) {
            for (int x = width - 1; x >= 0; x--) {
                if ((set & column(x)) != 0) {
                    return x;
                }
            }
            return NONE;
        }

        int lastRow(long set) {
            for (int y = height - 1; y >= 0; y--) {
                if ((set & row(y)) != 0) {
                    return y;
                }
            }
            return NONE;
        }
    }

    /** The STATES to go back to, in a ring, so that the oldest is lost when a ninth comes. */
    private static final class History {
        private static final int MOST_STATES = 8;
        private final Scene[] kept = new Scene[MOST_STATES];
        private int next;
        int count;

        History() {
            for (int i = 0; i < MOST_STATES; i++) {
                kept[i] = new Scene();
            }
        }

        void remember(Scene scene) {
            Scene slot = kept[next];
            if (slot != null) {
                slot.copyFrom(scene);
            }
            next = (next + 1) % MOST_STATES;
            count = Math.min(count + 1, MOST_STATES);
        }

        void giveBack(Scene scene) {
            if (count > 0) {
                next = (next + MOST_STATES - 1) % MOST_STATES;
                count--;
                Scene slot = kept[next];
                if (slot != null) {
                    scene.copyFrom(slot);
                }
            }
        }
    }

    /**
     * A flow from the FIGURE's end to the GROUND's end through dots and links. The greatest flow is the least cost, and
     * what room it leaves tells which cut-outs are best: those that no way with room leads out of.
     */
    private static final class Network {
        private static final int WAYS = 2 * LINKS;
        // a mark must outweigh any cost there can be, which stays below 20,000
        private static final int MARK_PULL = 1000000;
        // each round makes the shortest way from every dot that still sends longer, so there are hardly more rounds than dots
        private static final int MOST_FILLS = 1000;

        private int dots;
        private final int[] fromFigure = new int[MOST_DOTS];
        private final int[] toGround = new int[MOST_DOTS];
        private final int[] neighbour = new int[MOST_DOTS * WAYS];
        private final int[] room = new int[MOST_DOTS * WAYS];
        private final int[] distance = new int[MOST_DOTS];
        private final int[] queue = new int[MOST_DOTS];
        private int queued;

        int solve(Scene scene) {
            load(scene);
            return fill();
        }

        void load(Scene scene) {
            dots = scene.dots();
            for (int i = 0; i < neighbour.length; i++) {
                neighbour[i] = NONE;
            }
            for (int y = 0; y < scene.height; y++) {
                for (int x = 0; x < scene.width; x++) {
                    int number = scene.numberOf(x, y);
                    loadPulls(scene, number, scene.marks[number]);
                    for (int d = 0; d < LINKS; d++) {
                        int other = scene.linkedTo(x, y, d);
                        if (other != NONE) {
                            join(number, other, d, scene.weightOf(number, other, d));
                        }
                    }
                }
            }
        }

        void loadPulls(Scene scene, int number, int m) {
            fromFigure[number] = scene.pullFrom(number, GROUND_TONE) + (m == FIGURE ? MARK_PULL : 0);
            toGround[number] = scene.pullFrom(number, FIGURE_TONE) + (m == GROUND ? MARK_PULL : 0);
        }

        void join(int one, int other, int d, int weight) {
            int there = one * WAYS + d;
            int andBack = other * WAYS + reverse(d);
            neighbour[there] = other;
            neighbour[andBack] = one;
            room[there] = weight;
            room[andBack] = weight;
        }

        private static int reverse(int way) {
            return way < LINKS ? way + LINKS : way - LINKS;
        }

        int fill() {
            int flow = 0;
            for (int round = 0; round < MOST_FILLS; round++) {
                measureDistances();
                int before = flow;
                for (int k = 0; k < dots; k++) {
                    if (fromFigure[k] > 0 && distance[k] > 0) {
                        int sent = send(this, k, fromFigure[k], 1);
                        fromFigure[k] -= sent;
                        flow += sent;
                    }
                }
                if (flow == before) {
                    break;
                }
            }
            return flow;
        }

        /** How many ways each dot is from the GROUND's end; 0 where none with room leads there. */
        private void measureDistances() {
            queued = 0;
            for (int k = 0; k < dots; k++) {
                distance[k] = 0;
                if (toGround[k] > 0) {
                    distance[k] = 1;
                    enqueue(k);
                }
            }
            for (int at = 0; at < queued && at < MOST_DOTS; at++) {
                int number = queue[at];
                for (int way = 0; way < WAYS; way++) {
                    int other = neighbour[number * WAYS + way];
                    if (other != NONE && distance[other] == 0 && room[other * WAYS + reverse(way)] > 0) {
                        distance[other] = distance[number] + 1;
                        enqueue(other);
                    }
                }
            }
        }

        private void enqueue(int number) {
            if (queued < queue.length) {
                queue[queued] = number;
                queued++;
            }
        }

        private static int send(Network net, int number, int amount, int depth) {
            if (depth > MOST_DOTS) {
                return 0;
            }
            int sent = 0;
            if (net.distance[number] == 1) {
                sent = Math.min(amount, net.toGround[number]);
                net.toGround[number] -= sent;
            }
            for (int way = 0; way < WAYS && sent < amount; way++) {
                int there = number * WAYS + way;
                int other = net.neighbour[there];
                if (other != NONE && net.room[there] > 0 && net.isNext(number, other)) {
                    int more = send(net, other, Math.min(amount - sent, net.room[there]), depth + 1);
                    net.room[there] -= more;
                    net.room[other * WAYS + reverse(way)] += more;
                    sent += more;
                }
            }
            if (sent < amount) {
                // nothing more goes through here in this round, so no way need try it again
                net.distance[number] = 0;
            }
            return sent;
        }

        private boolean isNext(int number, int other) {
            return distance[other] > 0 && distance[other] == distance[number] - 1;
        }

        long leastSet() {
            long seeds = 0;
            for (int k = 0; k < dots; k++) {
                if (fromFigure[k] > 0) {
                    seeds |= 1L << k;
                }
            }
            return spread(seeds);
        }

        long greatestSet() {
            measureDistances();
            long set = 0;
            for (int k = 0; k < dots; k++) {
                if (distance[k] == 0) {
                    set |= 1L << k;
                }
            }
            return set;
        }

        /** The seeds and all dots that ways with room lead to from them. */
        private long spread(long seeds) {
            long found = seeds;
            queued = 0;
            for (int k = 0; k < dots; k++) {
                if (has(seeds, k)) {
                    enqueue(k);
                }
            }
            for (int at = 0; at < queued && at < MOST_DOTS; at++) {
                for (int way = 0; way < WAYS; way++) {
                    int there = queue[at] * WAYS + way;
                    int other = neighbour[there];
                    if (other != NONE && room[there] > 0 && !has(found, other)) {
                        found |= 1L << other;
                        enqueue(other);
                    }
                }
            }
            return found;
        }

        boolean alwaysParts(int inside, int outside) {
            return has(leastSet(), inside) && !has(greatestSet(), outside);
        }

        boolean mayPart(int inside, int outside) {
            if (!has(greatestSet(), inside)) {
                return false;
            }
            // the smallest best one with this dot in it: what leaves the other one out, if any best one does
            return !has(spread(leastSet() | 1L << inside), outside);
        }
    }

    /** THE TEXT, and a reader that stands at a place in it. */
    private static final class Script {
        private static final int MOST_BYTES = 100, MOST_NUMBERS = 4;
        private static final int END = -1, BLANK = 32;

        private final int[] bytes = new int[MOST_BYTES];
        private final int[] numbers = new int[MOST_NUMBERS];
        int length;
        private int place;
        int orders;
        int kind;
        int numberCount;

        boolean takeByte(int c) {
            if (length >= MOST_BYTES) {
                return false;
            }
            bytes[length] = c;
            length++;
            return true;
        }

        void rewind() {
            place = 0;
        }

        int number(int i) {
            return i >= 0 && i < numberCount ? numbers[i] : 0;
        }

        /** The place of the FAULT, or NONE; counts the orders on the way. */
        int findFault(int w, int h) {
            rewind();
            orders = 0;
            for (int i = 0; i <= MOST_BYTES; i++) {
                if (orders > 0 && peekSign() == END) {
                    return NONE;
                }
                if (!readOrder(w, h)) {
                    return place;
                }
                orders++;
            }
            return place;
        }

        /** Reads one order; if it can't stand, the reader stops at the fault. */
        boolean readOrder(int w, int h) {
            numberCount = 0;
            kind = peekSign();
            switch (kind) {
                case 'f':
                case 'g':
                case 'n':
                    place++;
                    return readDot(w, h) && (peekSign() == ';' || readDot(w, h)) && readEnd();
                case 's':
                    place++;
                    return readDot(w, h) && readFigure(0, GREATEST_SHADE) && readEnd();
                case 'l':
                    place++;
                    return readFigure(1, 9) && readEnd();
                default:
                    return false;
            }
        }

        private boolean readDot(int w, int h) {
            return readFigure(0, w - 1) && readFigure(0, h - 1);
        }

        private boolean readFigure(int least, int greatest) {
            int figure = peekSign() - '0';
            if (!isWithin(figure, least, greatest) || numberCount >= MOST_NUMBERS) {
                return false;
            }
            numbers[numberCount] = figure;
            numberCount++;
            place++;
            return true;
        }

        private boolean readEnd() {
            if (peekSign() != ';') {
                return false;
            }
            place++;
            return true;
        }

        /** The next byte that is no blank, at which the reader then stands, or END. */
        private int peekSign() {
            while (place < length && bytes[place] == BLANK) {
                place++;
            }
            return place < length ? bytes[place] : END;
        }
    }
}
