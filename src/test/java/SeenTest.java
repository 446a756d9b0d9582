/** Promises 23 to 27: what was seen, the boat, and the counts. */
public final class SeenTest {
    private static final int[] EDGES = {Integer.MIN_VALUE, -6, -5, -4, -3, -2, -1, Integer.MAX_VALUE};

    public static void main(String[] args) {
        seen();
        forget();
        strongOfEachKind();
        strong();
        boastsOnce();
        boastsOften();
        boastsOutside();
        count();
        Checks.end("SeenTest");
    }

    /** Promise 23. */
    private static void seen() {
        for (int edge : EDGES) {
            NobodyCave y = Checks.told("man 3;ram 4");
            String before = Checks.state(y);
            Checks.refused("seen(" + edge + ", 0, 0)", y, before, y.seen(edge, 0, 0), Checks.UNKNOWN);
            Checks.refused("seen(0, " + edge + ", 0)", y, before, y.seen(0, edge, 0), Checks.UNKNOWN);
            Checks.refused("seen(0, 0, " + edge + ")", y, before, y.seen(0, 0, edge), Checks.OUTSIDE);
        }
        NobodyCave x = Checks.told("man 3;ram 4;ram 5");
        Checks.due("seen(1, 0, 0)", x.seen(1, 0, 0), Checks.UNKNOWN);
        Checks.due("seen(0, 2, 0)", x.seen(0, 2, 0), Checks.UNKNOWN);
        Checks.due("seen(0, 0, 2)", x.seen(0, 0, 2), Checks.OUTSIDE);
        Checks.due("seen(1, 0, 2)", x.seen(1, 0, 2), Checks.UNKNOWN);
        for (int n = 1; n <= 6; n++) {
            Checks.due("seen " + n, x.seen(0, n % 2, n % 2), n);
        }
        Checks.refused("a seventh", x, Checks.state(x), x.seen(0, 0, 0), Checks.FULL);
        Checks.due("unknown when full", x.seen(1, 0, 0), Checks.UNKNOWN);
        Checks.due("outside when full", x.seen(0, 0, 2), Checks.OUTSIDE);
        x.day();
        Checks.due("he is eaten", x.man(0, 1), 2);
        x.forget();
        Checks.due("seen of him all the same", x.seen(0, 0, 1), 1);
    }

    /** Promise 24. */
    private static void forget() {
        NobodyCave x = Checks.told("man 3;woolly 4");
        Checks.due("forget nothing", x.forget(), 0);
        x.seen(0, 0, 1);
        x.seen(0, 0, 1);
        Checks.due("least by what is seen", x.strong(0, 0), 3);
        Checks.due("forget two", x.forget(), 2);
        Checks.due("none is seen", x.count(12), 0);
        Checks.due("least by nothing", x.strong(0, 0), 1);
        Checks.due("seen anew", x.seen(0, 0, 0), 1);
        Checks.due("greatest by it", x.strong(0, 1), 2);
        Checks.due("least by it", x.strong(0, 0), 1);
    }

    private static int bears(int kind, int strong) {
        int[] all = {strong, strong + strong / 2, strong * 2, Math.max(0, strong - 3)};
        return all[kind];
    }

    /** Promise 25: each kind, each weight. */
    private static void strongOfEachKind() {
        String[] kinds = {"woolly", "ram", "tied", "bell"};
        for (int kind = 0; kind < 4; kind++) {
            for (int weight = 1; weight <= 20; weight++) {
                for (int out = 0; out <= 1; out++) {
                    NobodyCave x = Checks.told("man " + weight + ";" + kinds[kind] + " 7");
                    x.seen(0, 0, out);
                    int least = Checks.NONE;
                    int greatest = Checks.NONE;
                    for (int strong = 1; strong <= 20; strong++) {
                        if (bears(kind, strong) >= weight == (out == 1)) {
                            least = least == Checks.NONE ? strong : least;
                            greatest = strong;
                        }
                    }
                    String what = kinds[kind] + ", weight " + weight + ", out " + out;
                    Checks.due("least: " + what, x.strong(0, 0), least);
                    Checks.due("greatest: " + what, x.strong(0, 1), greatest);
                }
            }
        }
    }

    /** Promise 25: several sights, of several sheep. */
    private static void strong() {
        NobodyCave x = Checks.told("man 5;man 9;man 12;woolly 20;woolly 1;bell 2");
        Checks.due("least of nothing", x.strong(0, 0), 1);
        Checks.due("greatest of nothing", x.strong(0, 1), 20);
        x.seen(0, 0, 1);
        x.seen(1, 0, 1);
        x.seen(2, 0, 0);
        x.seen(2, 1, 1);
        Checks.due("least of 0", x.strong(0, 0), 9);
        Checks.due("greatest of 0", x.strong(0, 1), 11);
        Checks.due("least of 1", x.strong(1, 0), 12);
        Checks.due("greatest of 1", x.strong(1, 1), 20);
        Checks.due("least of 2", x.strong(2, 0), 1);
        Checks.due("what is told stays", x.sheep(0, 1), 20);
        x.seen(0, 1, 0);
        Checks.due("no strength does: least", x.strong(1, 0), Checks.NONE);
        Checks.due("no strength does: greatest", x.strong(1, 1), Checks.NONE);
        Checks.due("of 0 as before", x.strong(0, 1), 11);
        for (int edge : EDGES) {
            Checks.due("strong(" + edge + ", 0)", x.strong(edge, 0), Checks.UNKNOWN);
            Checks.due("strong(" + edge + ", 9)", x.strong(edge, 9), Checks.UNKNOWN);
            Checks.due("strong(0, " + edge + ")", x.strong(0, edge), Checks.OUTSIDE);
        }
        Checks.due("strong(3, 0)", x.strong(3, 0), Checks.UNKNOWN);
        Checks.due("strong(0, 2)", x.strong(0, 2), Checks.OUTSIDE);
    }

    private static void odds(int n, int d, int r, int b, int above, int below) {
        NobodyCave x = new NobodyCave();
        String call = "boasts(" + n + ", " + d + ", " + r + ", " + b + ", ";
        Checks.due(call + "0)", x.boasts(n, d, r, b, 0), above);
        Checks.due(call + "1)", x.boasts(n, d, r, b, 1), below);
    }

    /** Promise 26: one boast. */
    private static void boastsOnce() {
        for (int r = 0; r <= 5; r++) {
            odds(1, 0, r, 0, 4, 5);
            odds(1, 9, r, 3, 1, 5);
            odds(1, 9, r, 4, 0, 1);
            odds(1, 9, r, 9, 0, 1);
            odds(1, 10, r, 4, 1, 5);
            odds(1, 10, r, 5, 0, 1);
            odds(1, 10, r, 0, 1, 1);
            odds(1, 14, r, 1, 4, 5);
            odds(1, 15, r, 1, 1, 1);
            odds(1, 15, r, 2, 4, 5);
            odds(1, 19, r, 2, 4, 5);
            odds(1, 20, r, 2, 1, 1);
            odds(1, 20, r, 3, 4, 5);
            odds(1, 20, r, 0, 1, 1);
            odds(0, 20, r, 9, 1, 1);
        }
    }

    /** Promise 26: several boasts. */
    private static void boastsOften() {
        odds(2, 0, 0, 0, 16, 25);
        odds(6, 0, 0, 0, 4096, 15625);
        odds(6, 0, 0, 3, 1, 15625);
        odds(6, 0, 5, 3, 24, 3125);
        odds(6, 20, 5, 0, 1, 1);
        odds(6, 20, 5, 9, 0, 1);
        odds(6, 20, 5, 7, 0, 1);
        odds(6, 20, 5, 6, 24, 625);
        odds(6, 20, 5, 4, 12, 25);
        odds(3, 8, 1, 2, 12, 125);
        odds(2, 5, 5, 0, 4, 5);
        odds(3, 20, 0, 2, 1, 1);
        odds(2, 20, 5, 3, 4, 5);
    }

    /** Promise 26: what is outside. */
    private static void boastsOutside() {
        NobodyCave x = new NobodyCave();
        int[] most = {6, 20, 5, 9, 1};
        for (int which = 0; which < 5; which++) {
            int[] a = {1, 1, 1, 1, 1};
            for (int edge : EDGES) {
                a[which] = edge;
                Checks.due("boasts, " + which + " is " + edge, x.boasts(a[0], a[1], a[2], a[3], a[4]), Checks.OUTSIDE);
            }
            a[which] = most[which] + 1;
            Checks.due("boasts, " + which + " one more", x.boasts(a[0], a[1], a[2], a[3], a[4]), Checks.OUTSIDE);
            a[which] = most[which];
            Checks.due("boasts, " + which + " the most", x.boasts(a[0], a[1], a[2], a[3], a[4]) >= 0 ? 1 : 0, 1);
        }
        Checks.due("outside with no boast", x.boasts(0, 21, 0, 0, 0), Checks.OUTSIDE);
    }

    /** Promise 27. */
    private static void count() {
        NobodyCave x = Checks.told("man 1;man 2;man 3;man 4;ram 9;ram 9;ram 9;near 254;near 255;hard 1;sleep 1;eats 1;wine 9");
        x.day();
        x.day();
        x.give(2);
        x.hide(2, 1);
        x.blind(0);
        x.hide(3, 1);
        x.morning();
        x.seen(0, 0, 0);
        Checks.type(x, "cav");
        int[] want = {4, 3, 2, 2, 7, 2, 2, 1, 0, 8, 7, 2, 1, 7, 3};
        for (int what = 0; what < want.length; what++) {
            Checks.due("count(" + what + ")", x.count(what), want[what]);
        }
        for (int edge : EDGES) {
            Checks.due("count(" + edge + ")", x.count(edge), Checks.OUTSIDE);
        }
        Checks.due("count(15)", x.count(15), Checks.OUTSIDE);
    }
}
