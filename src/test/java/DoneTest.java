/** Promises 10 to 17: what is done. */
public final class DoneTest {
    private static final int[] EDGES = {Integer.MIN_VALUE, -6, -5, -4, -3, -2, Integer.MAX_VALUE};

    public static void main(String[] args) {
        give();
        dayEats();
        dayEnds();
        blind();
        blindNeighbours();
        hide();
        morning();
        undo();
        undoEach();
        keepAndBack();
        Checks.end("DoneTest");
    }

    private static NobodyCave blinded(String text) {
        NobodyCave x = Checks.told(text);
        Checks.tell(x, "hard 1;sleep 1;eats 0", 3);
        x.day();
        x.give(1);
        Checks.due("blinded", x.blind(0), 0);
        return x;
    }

    /** Promise 10. */
    private static void give() {
        for (int edge : EDGES) {
            NobodyCave w = Checks.told("wine 50");
            Checks.refused("give(" + edge + ")", w, Checks.state(w), w.give(edge), Checks.OUTSIDE);
        }
        NobodyCave x = Checks.told("wine 50");
        Checks.due("give(-1)", x.give(-1), Checks.OUTSIDE);
        Checks.due("give(0)", x.give(0), Checks.OUTSIDE);
        Checks.due("give(51)", x.give(51), Checks.OUTSIDE);
        Checks.due("give(1)", x.give(1), 1);
        Checks.refused("give(50) of 49", x, Checks.state(x), x.give(50), Checks.NOT);
        Checks.due("give(4)", x.give(4), 5);
        Checks.due("cups there are", x.count(4), 45);
        Checks.due("cups he drank", x.count(5), 5);
        x.day();
        Checks.due("drunk on the next day", x.count(5), 0);
        Checks.due("cups on the next day", x.count(4), 45);
        Checks.due("give(45)", x.give(45), 45);
        Checks.due("give of none left", x.give(1), Checks.NOT);
        Checks.due("outside before not", x.give(51), Checks.OUTSIDE);
        NobodyCave y = Checks.told("wine 50");
        Checks.due("give(50)", y.give(50), 50);
        NobodyCave z = blinded("wine 9");
        Checks.refused("give to the blind", z, Checks.state(z), z.give(1), Checks.NOT);
        Checks.due("outside to the blind", z.give(0), Checks.OUTSIDE);
    }

    /** Promise 11: who is eaten. */
    private static void dayEats() {
        int[][] want = {{0, 0, 0}, {1, 2, 4}, {3, 12, 16}, {7, 24, 0}};
        for (int eats = 0; eats <= 3; eats++) {
            NobodyCave x = Checks.told("man 1;man 1;man 1;man 1;man 1;ram 9;ram 9;eats " + eats);
            x.hide(0, 1);
            x.hide(4, 0);
            int all = 0;
            for (int day = 0; day < 3; day++) {
                Checks.due("eats " + eats + ", day " + day, x.day(), want[eats][day]);
                all |= want[eats][day];
                Checks.due("eaten", x.count(10), all);
                Checks.due("in", x.count(8), 31 & ~all);
                Checks.due("he who is eaten hides no more", x.sheep(1, 3), eats == 0 ? 0 : Checks.NONE);
                Checks.due("he who is in hides yet", x.sheep(0, 3), (all & 16) == 0 ? 4 : Checks.NONE);
            }
        }
        NobodyCave x = blinded("man 1;man 1");
        Checks.tell(x, "eats 3", 1);
        x.day();
        Checks.due("all are eaten, if there are fewer", x.count(10), 3);

        NobodyCave y = Checks.told("man 1;man 1;hard 1;sleep 1;eats 1");
        y.day();
        y.give(2);
        y.blind(0);
        Checks.due("the blind eats nobody", y.day(), 0);
        Checks.due("in", y.count(8), 2);
        Checks.due("a day of the blind", y.count(3), 2);
        Checks.due("the stake of the blind", y.count(6), 2);
        Checks.due("the blind has drunk nothing", y.count(5), 0);
    }

    /** Promise 11: the stake, and the last day. */
    private static void dayEnds() {
        NobodyCave x = Checks.told("man 1;eats 0");
        for (int day = 1; day <= 99; day++) {
            Checks.due("day " + day, x.day(), 0);
            Checks.due("the day", x.count(3), day);
            Checks.due("the stake", x.count(6), Math.min(9, day));
        }
        x.give(3);
        Checks.refused("day 100", x, Checks.state(x), x.day(), Checks.FULL);
        Checks.due("undo of it", x.undo(), 7);
        Checks.due("drunk", x.count(5), 0);
        Checks.due("undo of a day", x.undo(), 6);
        Checks.due("day 99 again", x.day(), 0);
        Checks.due("day 100 again", x.day(), Checks.FULL);
    }

    private static NobodyCave asleep() {
        NobodyCave x = Checks.told("man 1;hard 1;sleep 1;eats 0;near 1");
        x.day();
        x.give(1);
        return x;
    }

    /** Promise 12: when he can be blinded. */
    private static void blind() {
        NobodyCave x = Checks.told("man 1;hard 2;sleep 3;eats 0;near 1");
        x.give(3);
        Checks.refused("soft", x, Checks.state(x), x.blind(0), Checks.NOT);
        x.day();
        x.day();
        Checks.due("awake: drank on another day", x.blind(0), Checks.NOT);
        x.give(2);
        Checks.refused("awake", x, Checks.state(x), x.blind(0), Checks.NOT);
        x.give(1);
        Checks.due("asleep", x.blind(0), 0);
        for (int edge : EDGES) {
            NobodyCave w = asleep();
            Checks.refused("blind(" + edge + ")", w, Checks.state(w), w.blind(edge), Checks.OUTSIDE);
        }
        NobodyCave z = asleep();
        Checks.due("blind(-1)", z.blind(-1), Checks.OUTSIDE);
        Checks.due("blind(8)", z.blind(8), Checks.OUTSIDE);
        Checks.due("he sees", z.count(7), 0);
        Checks.due("blind(7)", z.blind(7), 1);
        Checks.due("he is blind", z.count(7), 1);
        Checks.refused("blind already", z, Checks.state(z), z.blind(7), Checks.NOT);
        Checks.due("outside, blind already", z.blind(8), Checks.OUTSIDE);
        NobodyCave y = Checks.told("hard 1;sleep 1");
        y.give(1);
        Checks.due("outside before not", y.blind(8), Checks.OUTSIDE);
        y.day();
        y.day();
        y.give(5);
        Checks.due("harder, more drunk than need be", y.blind(0), 0);
    }

    /** Promise 12: who comes, and whom they find. */
    private static void blindNeighbours() {
        for (int name = 0; name < 8; name++) {
            NobodyCave x = Checks.told("man 1;man 1;man 1;man 1;near 1;near 3;near 240;near 255;tied 4;hard 1;sleep 1");
            x.hide(2, 0);
            x.day();
            x.give(1);
            int come = (name == 0 ? 0 : 1) | (name <= 1 ? 0 : 2) | (name >= 4 ? 0 : 4);
            int many = Integer.bitCount(come);
            Checks.due("who comes by " + name, x.blind(name), come);
            int eaten = 3 | (many >= 1 ? 4 : 0) | (many >= 2 ? 8 : 0);
            Checks.due("eaten by " + name, x.count(10), eaten);
            Checks.due("in by " + name, x.count(8), 15 & ~eaten);
            Checks.due("hides by " + name, x.man(2, 2), many >= 1 ? Checks.NONE : 0);
            Checks.due("under it by " + name, x.sheep(0, 3), many >= 1 ? Checks.NONE : 2);
        }
        NobodyCave y = Checks.told("man 1;near 0;near 0;hard 1;sleep 1;eats 0");
        y.day();
        y.give(1);
        Checks.due("more come than there are men", y.blind(3), 3);
        Checks.due("one is eaten", y.count(10), 1);
    }

    /** Promise 13. */
    private static void hide() {
        for (int edge : EDGES) {
            NobodyCave w = Checks.told("man 1;ram 9");
            Checks.refused("hide(" + edge + ", 0)", w, Checks.state(w), w.hide(edge, 0), Checks.UNKNOWN);
            Checks.refused("hide(0, " + edge + ")", w, Checks.state(w), w.hide(0, edge), Checks.UNKNOWN);
        }
        NobodyCave x = Checks.told("man 1;man 2;man 3;ram 9;ram 9;eats 1");
        Checks.due("hide(-1, 0)", x.hide(-1, 0), Checks.UNKNOWN);
        Checks.due("hide(3, 0)", x.hide(3, 0), Checks.UNKNOWN);
        Checks.due("hide(0, 2)", x.hide(0, 2), Checks.UNKNOWN);
        Checks.due("under none already", x.hide(0, Checks.NONE), Checks.NOT);
        Checks.due("hide(1, 0)", x.hide(1, 0), Checks.NONE);
        Checks.due("under it already", x.hide(1, 0), Checks.NOT);
        Checks.refused("somebody is under it", x, Checks.state(x), x.hide(2, 0), Checks.NOT);
        Checks.due("from under another", x.hide(1, 1), 0);
        Checks.due("who is under the one", x.sheep(0, 3), Checks.NONE);
        Checks.due("who is under the other", x.sheep(1, 3), 1);
        Checks.due("under none", x.hide(1, Checks.NONE), 1);
        Checks.due("nobody under it", x.sheep(1, 3), Checks.NONE);
        Checks.due("the first man", x.hide(0, 1), Checks.NONE);
        Checks.due("the first man under none", x.hide(0, Checks.NONE), 1);
        x.day();
        Checks.refused("eaten", x, Checks.state(x), x.hide(0, 0), Checks.NOT);
        Checks.due("eaten, under none", x.hide(0, Checks.NONE), Checks.NOT);
        Checks.due("eaten, unknown sheep", x.hide(0, 5), Checks.UNKNOWN);

        NobodyCave y = blinded("man 1;man 2;ram 9;ram 9");
        y.hide(0, 0);
        y.morning();
        Checks.due("out", y.hide(0, 1), Checks.NOT);
        Checks.refused("gone", y, Checks.state(y), y.hide(1, 0), Checks.NOT);
        Checks.due("the other", y.hide(1, 1), Checks.NONE);
    }

    /** Promise 14. */
    private static void morning() {
        NobodyCave x = Checks.told("man 1;ram 9");
        x.hide(0, 0);
        Checks.refused("he sees", x, Checks.state(x), x.morning(), Checks.NOT);

        NobodyCave y = blinded("man 9;man 10;man 15;man 16;man 20;man 1;woolly 9;woolly 9;ram 10;ram 10;tied 10;bell 3");
        for (int i = 0; i < 6; i++) {
            y.hide(i, i);
        }
        Checks.due("morning", y.morning(), 1 | 4 | 16);
        Checks.due("out", y.count(9), 1 | 4 | 16);
        Checks.due("eaten", y.count(10), 2 | 8 | 32);
        Checks.due("in", y.count(8), 0);
        Checks.due("gone", y.count(11), 1 | 4 | 16);
        Checks.due("nobody hides", y.man(1, 2), Checks.NONE);
        Checks.due("the day", y.count(3), 1);
        Checks.due("the stake", y.count(6), 1);
        Checks.due("drunk", y.count(5), 1);

        NobodyCave z = blinded("man 4;man 3;man 3;bell 6;woolly 2;tied 2");
        Checks.due("nobody hides", z.morning(), 0);
        Checks.due("all in", z.count(8), 7);
        z.hide(1, 0);
        Checks.due("a first one", z.morning(), 2);
        z.hide(0, 2);
        Checks.due("a second one, not the first again", z.morning(), 1);
        Checks.due("out by both", z.count(9), 3);
        z.hide(2, 1);
        Checks.due("not out", z.morning(), 0);
        Checks.due("gone by all", z.count(11), 5);
    }

    /** Promise 15: how many, and which. */
    private static void undo() {
        NobodyCave x = Checks.told("wine 50");
        Checks.refused("undo of nothing", x, Checks.state(x), x.undo(), Checks.NOT);
        for (int n = 1; n <= 12; n++) {
            x.give(1);
            Checks.due("can be undone", x.count(13), Math.min(8, n));
        }
        for (int n = 12; n >= 5; n--) {
            Checks.due("undo of " + n, x.undo(), n - 5);
            Checks.due("drunk then", x.count(5), n - 1);
            Checks.due("cups then", x.count(4), 51 - n);
        }
        Checks.due("undo of a ninth", x.undo(), Checks.NOT);
        Checks.due("drunk yet", x.count(5), 4);
        for (int round = 0; round < 5; round++) {
            x.give(1);
            x.give(2);
            x.give(3);
            x.undo();
            x.undo();
        }
        Checks.due("can be undone", x.count(13), 5);
        Checks.due("drunk", x.count(5), 9);
        x.give(51);
        x.give(0);
        x.blind(0);
        x.morning();
        x.hide(0, 0);
        Checks.due("what is refused cannot be undone", x.count(13), 5);
        Checks.due("undo", x.undo(), 4);
        Checks.due("drunk behind it", x.count(5), 8);
    }

    private static final String MUCH = "man 1;man 2;man 9;man 3;ram 9;ram 2;near 0;hard 1;sleep 1;eats 1";

    /** A cave in which the first so many of eight deeds were done. */
    private static NobodyCave done(int deeds) {
        NobodyCave x = Checks.told(MUCH);
        for (int n = 0; n < deeds; n++) {
            switch (n) {
                case 0: x.hide(1, 0); break;
                case 1: x.day(); break;
                case 2: x.give(2); break;
                case 3: x.hide(2, 1); break;
                case 4: x.blind(0); break;
                case 5: x.hide(3, 0); break;
                case 6: x.morning(); break;
                default: x.day(); break;
            }
        }
        Checks.due("deeds done", x.count(13), deeds);
        return x;
    }

    /** Promise 15: each of the five, all undone; not what is seen, kept, written. */
    private static void undoEach() {
        for (int left = 0; left < 8; left++) {
            NobodyCave y = done(8);
            for (int n = 7; n >= left; n--) {
                Checks.due("undo to " + n, y.undo(), n);
            }
            Checks.same("undo to " + left, y, Checks.state(done(left)));
        }
        NobodyCave x = Checks.told(MUCH);
        x.give(1);
        x.seen(0, 0, 1);
        x.keep(0);
        Checks.type(x, "man");
        Checks.due("undo of the give", x.undo(), 0);
        Checks.due("seen yet", x.count(12), 1);
        Checks.due("written yet", x.count(14), 3);
        Checks.due("kept yet", x.back(0), 0);
        Checks.due("drunk as kept", x.count(5), 1);
    }

    /** Promises 16 and 17. */
    private static void keepAndBack() {
        for (int edge : new int[] {Integer.MIN_VALUE, -1, 2, Integer.MAX_VALUE}) {
            NobodyCave w = done(2);
            Checks.refused("keep(" + edge + ")", w, Checks.state(w), w.keep(edge), Checks.UNKNOWN);
            Checks.due("back(" + edge + ")", w.back(edge), Checks.UNKNOWN);
            Checks.due("back(0) of nothing", w.back(0), Checks.NOT);
            Checks.due("can be undone yet", w.count(13), 2);
        }
        NobodyCave x = Checks.told(MUCH);
        x.hide(1, 0);
        x.day();
        x.give(2);
        Checks.due("keep(1)", x.keep(1), 1);
        Checks.due("back(0) of nothing", x.back(0), Checks.NOT);
        Checks.due("keep leaves what can be undone", x.count(13), 3);
        // Back at once: what can be undone is not kept, so it must not be in the state to compare with.
        Checks.due("back(1) at once", x.back(1), 1);
        String first = Checks.state(x);
        x.blind(0);
        x.hide(3, 0);
        x.morning();
        x.day();
        Checks.due("keep(0)", x.keep(0), 2);
        x.day();
        x.seen(0, 1, 0);
        Checks.due("back(1)", x.back(1), 1);
        Checks.due("nothing can be undone", x.count(13), 0);
        Checks.due("undo", x.undo(), Checks.NOT);
        Checks.due("what is seen stays", x.forget(), 1);
        Checks.same("back(1)", x, first);
        Checks.due("back(0)", x.back(0), 2);
        Checks.due("blind as kept", x.count(7), 1);
        Checks.due("out as kept", x.count(9), 8);
        Checks.due("gone as kept", x.count(11), 1);
        Checks.due("eaten as kept", x.count(10), 3);
        Checks.due("back(1) again", x.back(1), 1);
        x.give(1);
        x.day();
        x.day();
        Checks.due("back(1) a third time", x.back(1), 1);
        Checks.due("keep over it", x.keep(0), 1);
        x.day();
        Checks.due("back to the later one", x.back(0), 1);
        Checks.same("back to the later one", x, first);
        NobodyCave y = done(2);
        y.keep(1);
        Checks.type(y, "cave");
        Checks.due("the text is not what is kept", y.back(1), 1);
        Checks.due("letters", y.count(14), 4);
    }
}
