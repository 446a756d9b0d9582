/** The document's sentences that name an edge, each with a test of its own: what is asked and done, promises 6 to 17. */
public final class DeedEdgesTest {
    private static final String SIX_MEN = "man 1;man 2;man 3;man 4;man 5;man 6";

    public static void main(String[] args) {
        given();
        asleep();
        firstAreEaten();
        hiddenOnesToo();
        blindEatsNobody();
        stake();
        nextDay();
        blindedIf();
        comers();
        findsOne();
        hidesUnder();
        bears();
        theMorning();
        nobodyHidesThen();
        kinds();
        man();
        sheep();
        near();
        as();
        give();
        day();
        blind();
        hide();
        morning();
        undoOfEach();
        undoOfTheLastEight();
        undoRoundAndRound();
        keep();
        back();
        backAndTexts();
        Checks.end("DeedEdgesTest");
    }

    private static void countIs(NobodyCave x, int what, int want) {
        Checks.due("count(" + what + ")", x.count(what), want);
    }

    /** A cave whose giant can be blinded on day 1 by one cup, and eats nobody. */
    private static NobodyCave easy(String text) {
        return Checks.told(text + ";sleep 1;hard 1;eats 0");
    }

    /** Such a cave on day 1, the giant being blind. */
    private static NobodyCave blinded(String text) {
        NobodyCave x = easy(text);
        x.day();
        x.give(1);
        Checks.due("blinded", x.blind(0), 0);
        return x;
    }

    private static void given() {
        Checks.of("CUPS are GIVEN to him (not if he is blind)");
        NobodyCave x = blinded("wine 2");
        Checks.due("to the blind", x.give(1), Checks.NOT);
        countIs(x, 4, 1);
        countIs(x, 5, 1);
        x.undo();
        Checks.due("to him who sees again", x.give(1), 2);
        countIs(x, 4, 0);
    }

    private static void asleep() {
        Checks.of("he is asleep, if he drank SLEEP or more on this DAY");
        NobodyCave x = Checks.told("sleep 4;hard 1;wine 50");
        x.day();
        x.give(3);
        Checks.due("one fewer", x.blind(0), Checks.NOT);
        x.day();
        x.give(1);
        Checks.due("on two days", x.blind(0), Checks.NOT);
        x.give(2);
        x.give(1);
        Checks.due("by several gifts", x.blind(0), 0);
        x.undo();
        x.give(1);
        Checks.due("one more", x.blind(0), 0);
        x.undo();
        x.give(41);
        Checks.due("by all", x.blind(0), 0);
    }

    private static void firstAreEaten() {
        Checks.of("if he sees, the first EATS of MEN who are IN are EATEN (by numbers; all, if there are fewer)");
        int[][] want = {{0, 0, 0}, {1, 2, 4}, {3, 12, 16}, {7, 24, 0}};
        for (int eats = 0; eats <= 3; eats++) {
            NobodyCave x = Checks.told("man 1;man 1;man 1;man 1;man 1;eats " + eats);
            for (int n = 0; n < 3; n++) {
                Checks.due("eats " + eats + ", day " + n, x.day(), want[eats][n]);
            }
        }
        Checks.due("nobody is there", new NobodyCave().day(), 0);
        Checks.due("two of three", Checks.told("man 1;man 1;eats 3").day(), 3);
        Checks.due("just three", Checks.told("man 1;man 1;man 1;eats 3").day(), 7);
        NobodyCave x = Checks.told("man 1;man 1;man 1;eats 2");
        x.day();
        Checks.due("one is left for two", x.day(), 4);
        Checks.due("none is left", x.day(), 0);
        countIs(x, 10, 7);
    }

    private static void hiddenOnesToo() {
        Checks.of("hidden ones too");
        NobodyCave x = Checks.told("man 1;man 1;man 1;ram 9;ram 9;ram 9;eats 2");
        x.hide(0, 2);
        x.hide(2, 0);
        Checks.due("day()", x.day(), 3);
        Checks.due("he is eaten", x.man(0, 1), 2);
        Checks.due("he hides no more", x.man(0, 2), Checks.NONE);
        Checks.due("nobody is under it", x.sheep(2, 3), Checks.NONE);
        Checks.due("the other hides yet", x.sheep(0, 3), 2);
        Checks.due("under the free one", x.hide(2, 2), 0);
    }

    private static void blindEatsNobody() {
        Checks.of("A DAY: if he sees");
        NobodyCave x = Checks.told("man 1;man 1;man 1;man 1;sleep 1;hard 1;eats 3;ram 9");
        Checks.due("he sees", x.day(), 7);
        x.hide(3, 0);
        x.give(1);
        x.blind(0);
        Checks.due("he is blind", x.day(), 0);
        countIs(x, 8, 8);
        Checks.due("who hides, hides yet", x.man(3, 2), 0);
        countIs(x, 3, 2);
        countIs(x, 5, 0);
        countIs(x, 6, 2);
    }

    private static void stake() {
        Checks.of("THE STAKE is 1 harder (9 at most)");
        NobodyCave x = new NobodyCave();
        for (int day = 1; day <= 12; day++) {
            x.day();
            countIs(x, 6, day < 9 ? day : 9);
        }
        x.undo();
        x.undo();
        countIs(x, 6, 9);
        x.undo();
        countIs(x, 6, 9);
        x.undo();
        countIs(x, 6, 8);
    }

    private static void nextDay() {
        Checks.of("he has drunk nothing; it is the next DAY");
        NobodyCave x = new NobodyCave();
        x.give(12);
        countIs(x, 5, 12);
        x.day();
        countIs(x, 5, 0);
        countIs(x, 4, 0);
        countIs(x, 3, 1);
        Checks.due("no cups are left on it", x.give(1), Checks.NOT);
    }

    private static void blindedIf() {
        Checks.of("BLINDED, if he sees, is asleep, and THE STAKE is HARD or harder");
        NobodyCave x = Checks.told("sleep 2;hard 2;wine 50");
        x.day();
        x.give(2);
        Checks.due("asleep, too soft", x.blind(0), Checks.NOT);
        x.day();
        Checks.due("hard, awake", x.blind(0), Checks.NOT);
        x.give(1);
        Checks.due("hard, not yet asleep", x.blind(0), Checks.NOT);
        x.give(1);
        Checks.due("hard, asleep", x.blind(0), 0);
        Checks.due("blind already", x.blind(0), Checks.NOT);
        x.undo();
        x.day();
        x.give(2);
        Checks.due("harder, asleep", x.blind(0), 0);
        NobodyCave y = Checks.told("hard 9;sleep 9;wine 50");
        for (int n = 0; n < 8; n++) {
            y.day();
        }
        y.give(9);
        Checks.due("8 of 9", y.blind(0), Checks.NOT);
        y.day();
        y.give(8);
        Checks.due("8 cups of 9", y.blind(0), Checks.NOT);
        y.give(1);
        Checks.due("9 and 9", y.blind(0), 0);
    }

    private static void comers() {
        Checks.of("the NEIGHBOURS COME who do not TAKE it for nobody");
        for (int name = 0; name <= 7; name++) {
            NobodyCave x = easy("near 0;near 255;near " + (1 << name) + ";near " + (255 - (1 << name)));
            x.day();
            x.give(1);
            Checks.due("name " + name, x.blind(name), 1 | 8);
            x.undo();
            Checks.due("another than " + name, x.blind(7 - name), 1 | 4);
        }
        NobodyCave none = easy("wine 9");
        none.day();
        none.give(1);
        Checks.due("no neighbours", none.blind(7), 0);
        NobodyCave all = easy("near 0;near 0;near 0;near 0");
        all.day();
        all.give(1);
        Checks.due("all", all.blind(0), 15);
    }

    private static void findsOne() {
        Checks.of("each that COMES finds one of MEN (the first that is IN; by numbers), who is EATEN");
        for (int come = 0; come <= 4; come++) {
            NobodyCave x = Checks.told("man 1;man 1;man 1;man 1;ram 9;sleep 1;hard 1;eats 1" + ";near 0".repeat(come));
            x.hide(1, 0);
            x.day();
            x.give(1);
            Checks.due(come + " come", x.blind(0), (1 << come) - 1);
            countIs(x, 10, come >= 3 ? 15 : (2 << come) - 1);
            countIs(x, 8, come >= 3 ? 0 : 15 & ~((2 << come) - 1));
            Checks.due("who hides", x.man(1, 2), come == 0 ? 0 : Checks.NONE);
            Checks.due("under it", x.sheep(0, 3), come == 0 ? 1 : Checks.NONE);
        }
        NobodyCave nobody = easy("near 0");
        nobody.day();
        nobody.give(1);
        Checks.due("nobody to find", nobody.blind(0), 1);
        countIs(nobody, 10, 0);
    }

    private static void hidesUnder() {
        Checks.of("A MAN who is IN HIDES under a SHEEP that is not GONE, under which nobody is (from under another one, "
                + "too), or under none.");
        NobodyCave x = Checks.told("man 1;man 1;ram 9;ram 9");
        Checks.due("the last man, the last sheep", x.hide(1, 1), Checks.NONE);
        Checks.due("under the same", x.hide(0, 1), Checks.NOT);
        Checks.due("from under another one", x.hide(1, 0), 1);
        Checks.due("where he was", x.hide(0, 1), Checks.NONE);
        Checks.due("nobody can change with him", x.hide(0, 0), Checks.NOT);
        Checks.due("under none", x.hide(1, Checks.NONE), 0);
        Checks.due("where he was, too", x.hide(0, 0), 1);
        Checks.due("one man alone is under it", x.sheep(0, 3), 0);
        Checks.due("the first man under none", x.hide(0, Checks.NONE), 0);
        Checks.due("the first man under none already", x.hide(0, Checks.NONE), Checks.NOT);
        Checks.due("nobody is under the other", x.sheep(1, 3), Checks.NONE);
    }

    private static void bears() {
        Checks.of("BEARS is STRONG; of a RAM half of it (cut) more; of a TIED one twice STRONG; of one with a BELL 3 "
                + "less, 0 at least.");
        int[] strong = {1, 2, 3, 4, 5, 19, 20};
        int[][] want = {
            {1, 1, 2, 0}, {2, 3, 4, 0}, {3, 4, 6, 0}, {4, 6, 8, 1}, {5, 7, 10, 2}, {19, 28, 38, 16}, {20, 30, 40, 17}};
        for (int i = 0; i < strong.length; i++) {
            int s = strong[i];
            NobodyCave x = Checks.told("woolly " + s + ";ram " + s + ";tied " + s + ";bell " + s);
            for (int sheep = 0; sheep < 4; sheep++) {
                Checks.due("as(" + sheep + ", 0), strong " + s, x.as(sheep, 0), want[i][sheep]);
            }
        }
    }

    /** One man under one sheep: out with it, or eaten without it. */
    private static void under(String sheep, int weight, boolean out) {
        NobodyCave x = blinded("man " + weight + ";" + sheep);
        x.hide(0, 0);
        Checks.due(weight + " under " + sheep, x.morning(), out ? 1 : 0);
        countIs(x, 8, 0);
        countIs(x, 9, out ? 1 : 0);
        countIs(x, 10, out ? 0 : 1);
        countIs(x, 11, out ? 1 : 0);
    }

    private static void theMorning() {
        Checks.of("each MAN who HIDES is OUT, if the SHEEP BEARS his WEIGHT, and it is GONE; else he is EATEN");
        under("woolly 9", 8, true);
        under("woolly 9", 9, true);
        under("woolly 9", 10, false);
        under("woolly 20", 20, true);
        under("woolly 1", 1, true);
        under("woolly 1", 2, false);
        under("ram 9", 13, true);
        under("ram 9", 14, false);
        under("ram 1", 1, true);
        under("ram 1", 2, false);
        under("ram 20", 20, true);
        under("tied 9", 18, true);
        under("tied 9", 19, false);
        under("tied 1", 2, true);
        under("tied 1", 3, false);
        under("bell 9", 6, true);
        under("bell 9", 7, false);
        under("bell 4", 1, true);
        under("bell 3", 1, false);
        under("bell 1", 1, false);
        under("bell 20", 17, true);
        under("bell 20", 18, false);
    }

    private static void nobodyHidesThen() {
        Checks.of("then nobody HIDES");
        NobodyCave x = blinded("man 1;man 20;man 1;ram 1;ram 1;ram 1");
        x.hide(0, 1);
        x.hide(1, 0);
        Checks.due("morning()", x.morning(), 1);
        for (int i = 0; i < 3; i++) {
            Checks.due("man(" + i + ", 2)", x.man(i, 2), Checks.NONE);
            Checks.due("sheep(" + i + ", 3)", x.sheep(i, 3), Checks.NONE);
        }
        Checks.due("he who hid nowhere is in", x.man(2, 1), 0);
        Checks.due("a second morning", x.morning(), 0);
        countIs(x, 9, 1);
        countIs(x, 10, 2);
        Checks.due("under the sheep that stayed", x.hide(2, 0), Checks.NONE);
        Checks.due("a third morning", x.morning(), 4);
        countIs(x, 9, 5);
        countIs(x, 11, 3);
    }

    private static void kinds() {
        Checks.of("KINDS of SHEEP are over one another: SHEEP (0); WOOLLY (1) under it; RAM (2) is WOOLLY; TIED (3) is "
                + "WOOLLY; BELL (4) is a SHEEP.");
        NobodyCave x = Checks.told("woolly 10;ram 10;tied 10;bell 10");
        int not = Checks.NOT;
        int[][] want = {{10, 10, not, not, not}, {15, 15, 15, not, not}, {20, 20, not, 20, not}, {7, not, not, not, 7}};
        for (int sheep = 0; sheep < 4; sheep++) {
            for (int kind = 0; kind <= 4; kind++) {
                Checks.due("as(" + sheep + ", " + kind + ")", x.as(sheep, kind), want[sheep][kind]);
            }
        }
    }

    private static void man() {
        Checks.of("Of a MAN: WEIGHT (what 0), 0 IN, 1 OUT, 2 EATEN (1), the SHEEP under which he HIDES (2; NONE).");
        NobodyCave x = blinded("man 20;man 1;man 7;man 7;man 7;man 20;woolly 19;woolly 20;woolly 1");
        Checks.due("the first man's weight", x.man(0, 0), 20);
        Checks.due("the last man's weight", x.man(5, 0), 20);
        x.hide(0, 0);
        x.hide(5, 1);
        Checks.due("under the first sheep", x.man(0, 2), 0);
        Checks.due("under another one", x.man(5, 2), 1);
        Checks.due("under none", x.man(1, 2), Checks.NONE);
        x.morning();
        Checks.due("eaten", x.man(0, 1), 2);
        Checks.due("out", x.man(5, 1), 1);
        Checks.due("in", x.man(1, 1), 0);
        Checks.due("eaten, he hides under none", x.man(0, 2), Checks.NONE);
        Checks.due("out, he hides under none", x.man(5, 2), Checks.NONE);
        Checks.due("eaten, his weight", x.man(0, 0), 20);
    }

    private static void sheep() {
        Checks.of("Of a SHEEP: KIND (what 0), STRONG (1), 1 GONE, 0 (2), who HIDES under it (3; NONE).");
        NobodyCave x = blinded("man 5;man 5;bell 8;bell 7;woolly 1;ram 1;tied 1;bell 20");
        x.hide(0, 0);
        x.hide(1, 5);
        Checks.due("the first man", x.sheep(0, 3), 0);
        Checks.due("the other man", x.sheep(5, 3), 1);
        Checks.due("nobody", x.sheep(1, 3), Checks.NONE);
        Checks.due("the first is not gone", x.sheep(0, 2), 0);
        x.morning();
        Checks.due("the first is gone", x.sheep(0, 2), 1);
        Checks.due("the last is gone", x.sheep(5, 2), 1);
        Checks.due("another is not", x.sheep(1, 2), 0);
        Checks.due("gone, nobody is under it", x.sheep(0, 3), Checks.NONE);
        Checks.due("gone, its kind", x.sheep(5, 0), 3);
        Checks.due("gone, how strong", x.sheep(5, 1), 20);
    }

    private static void near() {
        Checks.of("NAMES that a NEIGHBOUR TAKES for nobody (bits). UNKNOWN.");
        for (int n = 0; n <= 4; n++) {
            NobodyCave x = Checks.told("wine 1" + ";near 255".repeat(n));
            for (int i = -1; i <= 5; i++) {
                Checks.due("near(" + i + ") of " + n, x.near(i), i >= 0 && i < n ? 255 : Checks.UNKNOWN);
            }
        }
    }

    private static void as() {
        Checks.of("A SHEEP taken as a KIND (0 .. 4, as they are over one another): what it BEARS. UNKNOWN; OUTSIDE; NOT: "
                + "it is none such.");
        NobodyCave x = blinded("man 1;bell 4;woolly 4");
        Checks.due("as(0, -1)", x.as(0, -1), Checks.OUTSIDE);
        Checks.due("as(0, 0)", x.as(0, 0), 1);
        Checks.due("as(0, 4)", x.as(0, 4), 1);
        Checks.due("as(0, 5)", x.as(0, 5), Checks.OUTSIDE);
        Checks.due("as(1, 4)", x.as(1, 4), Checks.NOT);
        Checks.due("as(2, 4)", x.as(2, 4), Checks.UNKNOWN);
        Checks.due("as(2, 5)", x.as(2, 5), Checks.UNKNOWN);
        Checks.due("as(-1, 0)", x.as(-1, 0), Checks.UNKNOWN);
        x.hide(0, 0);
        x.morning();
        Checks.due("gone, too", x.as(0, 4), 1);
    }

    private static void give() {
        Checks.of("n CUPS (1 .. 50) are GIVEN: how many he drank on this DAY. OUTSIDE; NOT: he is blind, there are not so "
                + "many.");
        NobodyCave x = Checks.told("wine 50");
        Checks.due("give(0)", x.give(0), Checks.OUTSIDE);
        Checks.due("give(51)", x.give(51), Checks.OUTSIDE);
        Checks.due("give(1)", x.give(1), 1);
        Checks.due("give(50) of 49", x.give(50), Checks.NOT);
        Checks.due("give(49) of 49", x.give(49), 50);
        Checks.due("give(1) of none", x.give(1), Checks.NOT);
        Checks.due("give(51) of none", x.give(51), Checks.OUTSIDE);
        countIs(x, 5, 50);
        countIs(x, 4, 0);
        Checks.due("give(50) of 50", Checks.told("wine 50").give(50), 50);
        NobodyCave y = blinded("wine 9");
        Checks.due("blind", y.give(1), Checks.NOT);
        Checks.due("blind, outside", y.give(0), Checks.OUTSIDE);
        Checks.due("blind, not so many", y.give(50), Checks.NOT);
    }

    private static void day() {
        Checks.of("A DAY: MEN who are EATEN on it (bits). FULL: it is DAY 99.");
        NobodyCave x = Checks.told(SIX_MEN + ";eats 3;wine 50");
        Checks.due("the first three", x.day(), 7);
        Checks.due("the last three", x.day(), 56);
        for (int day = 3; day <= 99; day++) {
            Checks.due("day " + day, x.day(), 0);
        }
        countIs(x, 3, 99);
        x.give(9);
        Checks.due("day() on DAY 99", x.day(), Checks.FULL);
        countIs(x, 3, 99);
        countIs(x, 5, 9);
        countIs(x, 13, 8);
        Checks.due("blinded on DAY 99", x.blind(0), 0);
        Checks.due("keep(0) on DAY 99", x.keep(0), 99);
        Checks.due("blind, on DAY 99", x.day(), Checks.FULL);
        x.undo();
        x.undo();
        x.undo();
        countIs(x, 3, 98);
        Checks.due("day() on DAY 98", x.day(), 0);
        Checks.due("back(0)", x.back(0), 99);
        Checks.due("day() on DAY 99 again", x.day(), Checks.FULL);
    }

    private static void blind() {
        Checks.of("He is BLINDED by NAME n (0 .. 7): NEIGHBOURS who COME (bits). OUTSIDE; NOT: as told.");
        NobodyCave x = easy("near 1;near 128");
        x.day();
        Checks.due("awake, -1", x.blind(-1), Checks.OUTSIDE);
        Checks.due("awake, 8", x.blind(8), Checks.OUTSIDE);
        Checks.due("awake", x.blind(0), Checks.NOT);
        x.give(1);
        Checks.due("asleep, -1", x.blind(-1), Checks.OUTSIDE);
        Checks.due("asleep, 8", x.blind(8), Checks.OUTSIDE);
        countIs(x, 7, 0);
        Checks.due("asleep, 0", x.blind(0), 2);
        x.undo();
        Checks.due("asleep, 7", x.blind(7), 1);
        countIs(x, 7, 1);
        Checks.due("blind, 8", x.blind(8), Checks.OUTSIDE);
        Checks.due("blind, 7", x.blind(7), Checks.NOT);
    }

    private static void hide() {
        Checks.of("A MAN HIDES under a SHEEP (NONE: none): under which he was (NONE). UNKNOWN; NOT: he is not IN; it is "
                + "GONE, somebody is under it (he too), he is under none.");
        NobodyCave x = Checks.told("man 1;man 1;man 1;man 1;ram 9;ram 9;ram 9;sleep 1;hard 1;eats 1");
        x.day();
        x.give(1);
        x.blind(0);
        x.hide(1, 0);
        x.morning();
        Checks.due("man -1", x.hide(-1, 1), Checks.UNKNOWN);
        Checks.due("man 4", x.hide(4, 1), Checks.UNKNOWN);
        Checks.due("sheep -2", x.hide(2, -2), Checks.UNKNOWN);
        Checks.due("sheep 3", x.hide(2, 3), Checks.UNKNOWN);
        Checks.due("eaten, sheep 3", x.hide(0, 3), Checks.UNKNOWN);
        Checks.due("man 4, none", x.hide(4, Checks.NONE), Checks.UNKNOWN);
        Checks.due("eaten", x.hide(0, 1), Checks.NOT);
        Checks.due("eaten, none", x.hide(0, Checks.NONE), Checks.NOT);
        Checks.due("out", x.hide(1, 1), Checks.NOT);
        Checks.due("out, none", x.hide(1, Checks.NONE), Checks.NOT);
        Checks.due("gone", x.hide(2, 0), Checks.NOT);
        Checks.due("under none already", x.hide(2, Checks.NONE), Checks.NOT);
        Checks.due("from none", x.hide(2, 1), Checks.NONE);
        Checks.due("he is under it", x.hide(2, 1), Checks.NOT);
        Checks.due("somebody is under it", x.hide(3, 1), Checks.NOT);
        Checks.due("from under it", x.hide(2, 2), 1);
        Checks.due("to none", x.hide(2, Checks.NONE), 2);
        Checks.due("to none again", x.hide(2, Checks.NONE), Checks.NOT);
        countIs(x, 13, 8);
    }

    private static void morning() {
        Checks.of("THE MORNING: MEN who are OUT by it (bits). NOT: he sees.");
        NobodyCave x = easy(SIX_MEN + ";woolly 6;woolly 6");
        x.hide(0, 0);
        Checks.due("he sees", x.morning(), Checks.NOT);
        x.day();
        x.give(1);
        Checks.due("he sleeps", x.morning(), Checks.NOT);
        Checks.due("who hides, hides yet", x.man(0, 2), 0);
        x.blind(0);
        x.hide(5, 1);
        Checks.due("the first and the last", x.morning(), 33);
        Checks.due("nobody more", x.morning(), 0);
        countIs(x, 8, 30);
        countIs(x, 3, 1);
        countIs(x, 6, 1);
    }

    private static void undoOfEach() {
        Checks.of("The latest give(), day(), blind(), hide(), morning() is undone");
        NobodyCave x = Checks.told("man 1;man 1;man 9;ram 9;ram 2;near 0;sleep 1;hard 1;eats 1");
        x.hide(0, 0);
        x.undo();
        Checks.due("hide(): under none", x.man(0, 2), Checks.NONE);
        x.hide(0, 0);
        x.hide(0, 1);
        x.undo();
        Checks.due("hide(): under the one before", x.man(0, 2), 0);
        x.day();
        x.undo();
        Checks.due("day(): in again", x.man(0, 1), 0);
        Checks.due("day(): hidden again", x.man(0, 2), 0);
        countIs(x, 3, 0);
        countIs(x, 6, 0);
        x.give(4);
        x.undo();
        countIs(x, 4, 12);
        countIs(x, 5, 0);
        x.day();
        x.give(4);
        x.hide(1, 0);
        x.blind(0);
        x.undo();
        countIs(x, 7, 0);
        countIs(x, 8, 6);
        Checks.due("blind(): hidden again", x.man(1, 2), 0);
        countIs(x, 5, 4);
        x.blind(0);
        x.hide(2, 1);
        x.morning();
        countIs(x, 10, 7);
        x.undo();
        countIs(x, 10, 3);
        Checks.due("morning(): hidden again", x.man(2, 2), 1);
        x.hide(2, 0);
        x.morning();
        countIs(x, 9, 4);
        countIs(x, 11, 1);
        x.undo();
        countIs(x, 9, 0);
        countIs(x, 11, 0);
    }

    private static void undoOfTheLastEight() {
        Checks.of("(the last 8 can be): how many can be undone yet. NOT: none.");
        for (int deeds = 0; deeds <= 10; deeds++) {
            NobodyCave x = Checks.told("wine 50");
            for (int n = 0; n < deeds; n++) {
                x.give(1);
            }
            int can = Math.min(8, deeds);
            countIs(x, 13, can);
            for (int left = can - 1; left >= 0; left--) {
                Checks.due("undo() of " + deeds, x.undo(), left);
                countIs(x, 13, left);
            }
            Checks.due("undo() of none", x.undo(), Checks.NOT);
            countIs(x, 5, deeds - can);
            countIs(x, 13, 0);
        }
    }

    /** The row of what can be undone goes round, so its ends must meet at every place of it. */
    private static void undoRoundAndRound() {
        Checks.of("(the last 8 can be)");
        for (int before = 0; before <= 17; before++) {
            NobodyCave x = Checks.told("wine 50");
            for (int n = 0; n < before; n++) {
                x.give(1);
            }
            x.undo();
            x.undo();
            x.undo();
            int left = Math.max(0, before - 3);
            int can = Math.max(0, Math.min(8, before) - 3);
            countIs(x, 5, left);
            for (int n = 1; n <= 4; n++) {
                x.give(2);
                countIs(x, 13, Math.min(8, can + n));
            }
            can = Math.min(8, can + 4);
            for (int n = 1; n <= can; n++) {
                Checks.due("undo() " + n + " behind " + before, x.undo(), can - n);
                countIs(x, 5, n <= 4 ? left + 8 - 2 * n : left + 4 - n);
            }
            Checks.due("undo() of none behind " + before, x.undo(), Checks.NOT);
        }
    }

    private static void keep() {
        Checks.of("All as it is (but SEEN, what can be undone) is kept (k 0, 1): the DAY. UNKNOWN: no such k.");
        NobodyCave x = blinded("man 1;man 1;man 20;man 1;ram 1;ram 1;ram 1;wine 9");
        x.hide(0, 0);
        x.hide(2, 1);
        x.morning();
        x.hide(3, 1);
        x.seen(0, 0, 1);
        Checks.due("keep(-1)", x.keep(-1), Checks.UNKNOWN);
        Checks.due("keep(2)", x.keep(2), Checks.UNKNOWN);
        Checks.due("keep(0)", x.keep(0), 1);
        countIs(x, 13, 7);
        x.morning();
        x.day();
        x.forget();
        Checks.due("keep(1)", x.keep(1), 2);
        Checks.due("back(0)", x.back(0), 1);
        int[] want = {4, 3, 0, 1, 8, 1, 1, 1, 10, 1, 4, 1, 0, 0, 0};
        for (int what = 0; what <= 14; what++) {
            countIs(x, what, want[what]);
        }
        Checks.due("who hid, hides", x.man(3, 2), 1);
        Checks.due("back(1)", x.back(1), 2);
        countIs(x, 9, 9);
        countIs(x, 11, 3);
        x.seen(0, 0, 1);
        Checks.due("keep(1) over it", x.keep(1), 2);
        x.seen(0, 0, 1);
        x.day();
        Checks.due("back(1) to the later one", x.back(1), 2);
        countIs(x, 12, 2);
    }

    private static void back() {
        Checks.of("It is as it was kept, nothing can be undone: the DAY. UNKNOWN; NOT: nothing was kept since the last "
                + "text.");
        NobodyCave x = Checks.told("man 1;man 2;ram 3;ram 4");
        Checks.due("back(-1)", x.back(-1), Checks.UNKNOWN);
        Checks.due("back(2)", x.back(2), Checks.UNKNOWN);
        Checks.due("back(0) of nothing", x.back(0), Checks.NOT);
        Checks.due("back(1) of nothing", x.back(1), Checks.NOT);
        x.hide(1, 1);
        x.keep(1);
        Checks.due("back(0) of nothing yet", x.back(0), Checks.NOT);
        countIs(x, 13, 1);
        for (int n = 0; n < 3; n++) {
            x.day();
            x.give(1);
            x.hide(1, 0);
            Checks.due("back(1)", x.back(1), 0);
            countIs(x, 13, 0);
            Checks.due("undo()", x.undo(), Checks.NOT);
            countIs(x, 4, 12);
            Checks.due("he hides as kept", x.man(1, 2), 1);
            Checks.due("the other is free", x.sheep(0, 3), Checks.NONE);
        }
        x.day();
        Checks.due("undo() of what is done behind back()", x.undo(), 0);
        Checks.due("he hides as kept", x.man(1, 2), 1);
    }

    private static void backAndTexts() {
        Checks.of("NOT: nothing was kept since the last text.");
        NobodyCave x = Checks.told("man 1");
        x.keep(0);
        x.keep(1);
        x.day();
        Checks.faultAt(x, "man 0", 4);
        Checks.due("behind a refused text", x.back(0), 0);
        Checks.say(x, "man 1");
        Checks.due("back(0) behind a text", x.back(0), Checks.NOT);
        Checks.due("back(1) behind a text", x.back(1), Checks.NOT);
        x.keep(0);
        Checks.due("kept since", x.back(0), 0);
        Checks.due("not kept since", x.back(1), Checks.NOT);
        countIs(x, 0, 2);
    }
}
