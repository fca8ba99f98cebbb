import java.util.Random;

/** Long runs of drawn calls on the class and on the Oracle side by side; every answer must be the same. */
public final class OracleTests {
    // an object answers 512 calls; a text that is typed takes some sixty of them at most
    private static final int RUNS = 200, LAST_BEGIN = 440;
    private static int wrong = 0;

    private static StrokeCuts real;
    private static Oracle due;
    private static Random random;
    private static int run, call, w, h;

    private static void same(String what, long got, long want) {
        call++;
        if (got != want) {
            wrong++;
            if (wrong < 30) {
                System.out.println("run " + run + ", call " + call + ": " + what + " answered " + got + ", due is " + want);
            }
        }
    }

    // mostly a number from least to greatest, at times one just outside or far outside
    private static int number(int least, int greatest) {
        switch (random.nextInt(60)) {
            case 0: return least - 1;
            case 1: return greatest + 1;
            case 2: return random.nextBoolean() ? Integer.MIN_VALUE : Integer.MAX_VALUE;
            case 3: return random.nextInt();
            default: return least + random.nextInt(greatest - least + 1);
        }
    }

    private static int x() {
        return number(0, w - 1);
    }

    private static int y() {
        return number(0, h - 1);
    }

    private static void pictureCall(int which) {
        int a = x(), b = y();
        switch (which) {
            case 0: {
                int newW = number(2, 6), newH = number(2, 6);
                same("picture " + newW + " " + newH, real.picture(newW, newH), due.picture(newW, newH));
                break;
            }
            case 1: {
                int v = number(0, 9);
                same("shade " + a + " " + b + " " + v, real.shade(a, b, v), due.shade(a, b, v));
                break;
            }
            case 2: {
                int seed = number(0, 999999), n = number(1, 10);
                same("draws " + seed + " " + n, real.draws(seed, n), due.draws(seed, n));
                break;
            }
            case 3: {
                int r = random.nextInt(4) > 0 ? number(0, 3) : number(0, 10), v = number(0, 9);
                same("blot " + a + " " + b + " " + r + " " + v, real.blot(a, b, r, v), due.blot(a, b, r, v));
                break;
            }
            case 4: {
                int m = number(0, 2);
                same("mark " + a + " " + b + " " + m, real.mark(a, b, m), due.mark(a, b, m));
                break;
            }
            case 5: {
                int m = number(0, 2), toX = x(), toY = y();
                same("stroke " + m + " " + a + " " + b + " " + toX + " " + toY, real.stroke(m, a, b, toX, toY), due.stroke(m, a, b, toX, toY));
                break;
            }
            default: {
                int what = number(0, 5);
                int v = what == 0 ? number(1, 50) : what == 5 ? number(0, 3) * 4 : number(0, 9);
                same("sets " + what + " " + v, real.sets(what, v), due.sets(what, v));
            }
        }
    }

    private static void askCall(int which) {
        int a = x(), b = y();
        switch (which) {
            case 0: {
                int what = number(0, 3);
                same("dot " + a + " " + b + " " + what, real.dot(a, b, what), due.dot(a, b, what));
                break;
            }
            case 1: {
                int d = number(0, 3);
                same("link " + a + " " + b + " " + d, real.link(a, b, d), due.link(a, b, d));
                break;
            }
            case 2: same("cost", real.cost(), due.cost()); break;
            case 3: {
                int what = number(0, 1);
                same("side " + what, real.side(what), due.side(what));
                break;
            }
            case 4: same("sure " + a + " " + b, real.sure(a, b), due.sure(a, b)); break;
            case 5: {
                int m = number(0, 2);
                same("were " + a + " " + b + " " + m, real.were(a, b, m), due.were(a, b, m));
                break;
            }
            case 6: {
                int d = number(0, 3), v = number(0, 99);
                same("strain " + a + " " + b + " " + d + " " + v, real.strain(a, b, d, v), due.strain(a, b, d, v));
                break;
            }
            case 7: {
                int d = number(0, 3);
                same("tight " + a + " " + b + " " + d, real.tight(a, b, d), due.tight(a, b, d));
                break;
            }
            case 8: {
                long set = drawnSet();
                same("costs " + set, real.costs(set), due.costs(set));
                break;
            }
            case 9: {
                int what = number(0, 7);
                same("shape " + what, real.shape(what), due.shape(what));
                break;
            }
            default: {
                int what = number(0, 12);
                same("told " + what, real.told(what), due.told(what));
            }
        }
    }

    private static long drawnSet() {
        call++;
        long all = (1L << w * h) - 1;
        switch (random.nextInt(8)) {
            case 0: return random.nextLong();
            case 1: return 1L << w * h;
            case 2: return random.nextLong() & all;
            case 3: return real.side(1);
            case 4: return real.side(0) ^ 1L << random.nextInt(w * h);
            default: return real.side(0);
        }
    }

    private static void doCall(int which) {
        switch (which) {
            case 0: {
                int n = number(1, 20);
                same("learns " + n, real.learns(n), due.learns(n));
                break;
            }
            case 1: same("keeps", real.keeps(), due.keeps()); break;
            case 2: same("turns", real.turns(), due.turns()); break;
            case 3: same("clear", real.clear(), due.clear()); break;
            case 4: same("does", real.does(), due.does()); break;
            case 5: same("back", real.back(), due.back()); break;
            default: same("digest", real.digest(), due.digest());
        }
    }

    private static void typeText() {
        if (random.nextInt(3) == 0) {
            same("clear", real.clear(), due.clear());
        }
        StringBuilder text = new StringBuilder();
        int orders = random.nextInt(4);
        for (int i = 0; i <= orders; i++) {
            text.append(drawnOrder());
        }
        if (random.nextInt(4) == 0 && text.length() > 0) {
            text.setCharAt(random.nextInt(text.length()), (char) random.nextInt(128));
        }
        if (random.nextInt(6) == 0) {
            text.setLength(random.nextInt(text.length() + 1));
        }
        for (int i = 0; i < text.length(); i++) {
            same("type", real.type(text.charAt(i)), due.type(text.charAt(i)));
        }
        if (random.nextInt(10) == 0) {
            int c = number(0, 127);
            same("type " + c, real.type(c), due.type(c));
        }
        same("does " + text, real.does(), due.does());
    }

    private static String drawnOrder() {
        StringBuilder order = new StringBuilder();
        char kind = "fgnsl".charAt(random.nextInt(5));
        order.append(kind);
        if (kind == 'l') {
            order.append(random.nextInt(10));
        } else {
            order.append(random.nextInt(w)).append(random.nextInt(h));
            if (kind == 's') {
                order.append(random.nextInt(10));
            } else if (random.nextBoolean()) {
                order.append(random.nextInt(w)).append(random.nextInt(random.nextInt(20) == 0 ? 10 : h));
            }
        }
        order.append(';');
        for (int i = 0; i < order.length(); i++) {
            if (random.nextInt(6) == 0) {
                order.insert(i, ' ');
            }
        }
        return order.toString();
    }

    private static void oneCall() {
        w = due.told(3);
        h = due.told(4);
        int kind = random.nextInt(40);
        if (kind < 16) {
            int which = random.nextInt(30);
            pictureCall(which == 0 ? 0 : which == 1 ? 2 : which < 7 ? 3 : which < 14 ? 4 : which < 19 ? 5 : which < 26 ? 6 : 1);
        } else if (kind < 35) {
            askCall(random.nextInt(11));
        } else if (kind < 38) {
            doCall(random.nextInt(7));
        } else {
            typeText();
        }
    }

    public static void main(String[] args) {
        for (run = 0; run < RUNS; run++) {
            random = new Random(1000 + run);
            real = new StrokeCuts();
            due = new Oracle();
            w = 4;
            h = 4;
            call = 0;
            if (run % 2 == 0) {
                pictureCall(0);
                w = due.told(3);
                h = due.told(4);
                pictureCall(2);
            }
            while (call < LAST_BEGIN) {
                oneCall();
            }
            same("digest at the end", real.digest(), due.digest());
        }
        System.out.println(wrong == 0 ? "all answers are as due" : wrong + " answers are not as due");
        if (wrong != 0) {
            System.exit(1);
        }
    }
}
