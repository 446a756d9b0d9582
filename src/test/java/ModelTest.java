import java.util.Random;

/** Runs of drawn calls, each answered by the class and by the model; the seeds are fixed. */
public final class ModelTest {
    private static final int RUNS = 6000, CALLS = 512;
    private static final String[] WORDS = {"cave", "man", "woolly", "ram", "tied", "bell", "near", "wine", "sleep",
        "hard", "eats"};

    private final Random random;
    private final NobodyCave x = new NobodyCave();
    private final Model y = new Model();
    private final StringBuilder pending = new StringBuilder();
    private int calls = 0;

    private ModelTest(long seed) {
        random = new Random(seed);
    }

    public static void main(String[] args) {
        allBoasts();
        for (int seed = 0; seed < RUNS; seed++) {
            new ModelTest(seed).run(seed);
        }
        Checks.end("ModelTest");
    }

    private static void allBoasts() {
        Model y = new Model();
        for (int n = 0; n <= 4; n++) {
            for (int d = 0; d <= 20; d++) {
                NobodyCave x = new NobodyCave();
                for (int r = 0; r <= 5; r++) {
                    for (int b = 0; b <= 9; b++) {
                        String call = "boasts(" + n + ", " + d + ", " + r + ", " + b + ")";
                        Checks.due(call, x.boasts(n, d, r, b, 0), y.boasts(n, d, r, b, 0));
                        Checks.due(call, x.boasts(n, d, r, b, 1), y.boasts(n, d, r, b, 1));
                    }
                }
            }
        }
    }

    private void run(int seed) {
        while (calls < CALLS) {
            int way = random.nextInt(100);
            if (pending.length() > 0) {
                int letter = pending.charAt(0);
                pending.deleteCharAt(0);
                both(seed, 0, letter, 0, 0);
                if (pending.length() == 0 && random.nextInt(10) < 9) {
                    both(seed, 2, 0, 0, 0);
                    both(seed, 3, 0, 0, 0);
                }
            } else if (way < (calls < 5 ? 90 : 2)) {
                drawText();
            } else {
                both(seed, drawCall(), drawNumber(), drawNumber(), drawNumber());
            }
        }
    }

    /** Deeds come more often than questions, so that the caves go on. */
    private int drawCall() {
        int[] deeds = {8, 8, 9, 10, 11, 11, 12, 13, 14, 15};
        if (random.nextInt(100) < 55) {
            return deeds[random.nextInt(deeds.length)];
        }
        int call = random.nextInt(26);
        return call <= 3 && random.nextInt(4) > 0 ? 16 + random.nextInt(10) : call;
    }

    private int drawNumber() {
        int way = random.nextInt(100);
        if (way < 85) {
            return random.nextInt(6);
        }
        if (way < 92) {
            return -1;
        }
        return way < 99 ? random.nextInt(60) - 6 : random.nextInt();
    }

    private void drawText() {
        int clauses = 1 + random.nextInt(random.nextInt(8) == 0 ? 16 : 14);
        if (random.nextInt(3) == 0) {
            pending.append("cave;");
        }
        for (int i = 0; i < clauses; i++) {
            if (i > 0) {
                pending.append(';');
            }
            // Cave in the midst of a text would leave few caves full.
            String word = WORDS[random.nextInt(20) == 0 ? 0 : 1 + random.nextInt(10)];
            pending.append(word);
            if (!word.equals("cave")) {
                pending.append(random.nextInt(9) == 0 ? "" : " ").append(drawBehind(word));
            }
        }
        if (random.nextInt(4) == 0) {
            int place = random.nextInt(pending.length());
            String odd = "; 0aA.-9" + (char) random.nextInt(256);
            pending.insert(place, odd.charAt(random.nextInt(odd.length())));
        }
        if (random.nextInt(9) == 0) {
            pending.append(' ');
        }
    }

    private int drawBehind(String word) {
        if (random.nextInt(60) == 0) {
            return random.nextInt(1100);
        }
        switch (word) {
            case "near": return random.nextInt(256);
            case "wine": return random.nextInt(51);
            case "sleep": return 1 + random.nextInt(3);
            case "hard": return 1 + random.nextInt(4);
            case "eats": return random.nextInt(random.nextInt(4) == 0 ? 4 : 2);
            default: return 1 + random.nextInt(20);
        }
    }

    private void both(int seed, int call, int a, int b, int c) {
        if (calls == CALLS) {
            return;
        }
        calls++;
        String what = "seed " + seed + ", call " + calls + ": " + call + "(" + a + ", " + b + ", " + c + ")";
        Checks.due(what, told(call, a, b, c), modelled(call, a, b, c));
    }

    private int told(int call, int a, int b, int c) {
        switch (call) {
            case 0: return x.write(a);
            case 1: return x.erase();
            case 2: return x.fault();
            case 3: return x.cave();
            case 4: return x.man(a, b);
            case 5: return x.sheep(a, b);
            case 6: return x.near(a);
            case 7: return x.as(a, b);
            case 8: return x.give(a);
            case 9: return x.day();
            case 10: return x.blind(a);
            case 11: return x.hide(a, b);
            case 12: return x.morning();
            case 13: return x.undo();
            case 14: return x.keep(a & 3);
            case 15: return x.back(a & 3);
            case 16: return x.soon(a & 1);
            case 17: return x.plan(a);
            case 18: return x.feel(a, b & 1);
            case 19: return x.names(a);
            case 20: return x.came(a);
            case 21: return x.seen(a, b, c);
            case 22: return x.forget();
            case 23: return x.strong(a, b & 1);
            case 24: return x.boasts(a % 5, b, c, b ^ c, a & 1);
            default: return x.count(b * 3 + c);
        }
    }

    private int modelled(int call, int a, int b, int c) {
        switch (call) {
            case 0: return y.write(a);
            case 1: return y.erase();
            case 2: return y.fault();
            case 3: return y.cave();
            case 4: return y.man(a, b);
            case 5: return y.sheep(a, b);
            case 6: return y.near(a);
            case 7: return y.as(a, b);
            case 8: return y.give(a);
            case 9: return y.day();
            case 10: return y.blind(a);
            case 11: return y.hide(a, b);
            case 12: return y.morning();
            case 13: return y.undo();
            case 14: return y.keep(a & 3);
            case 15: return y.back(a & 3);
            case 16: return y.soon(a & 1);
            case 17: return y.plan(a);
            case 18: return y.feel(a, b & 1);
            case 19: return y.names(a);
            case 20: return y.came(a);
            case 21: return y.seen(a, b, c);
            case 22: return y.forget();
            case 23: return y.strong(a, b & 1);
            case 24: return y.boasts(a % 5, b, c, b ^ c, a & 1);
            default: return y.count(b * 3 + c);
        }
    }
}
