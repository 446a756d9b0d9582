/** The document's sentences that name an edge, each with a test of its own: promises 18 to 27. */
public final class ForetoldEdgesTest {
    private static final String SIX_MEN = "man 1;man 2;man 3;man 4;man 5;man 6";

    public static void main(String[] args) {
        soonIsDays();
        soonByCupsOfTheDay();
        soonIsNone();
        lost();
        lostWithoutNeighbours();
        soon();
        planOfThoseThere();
        planWhoeverHides();
        planTheFirst();
        plan();
        feelOf();
        feelTheLeast();
        feel();
        namesOfNobody();
        nameOfFewest();
        names();
        cameBy();
        came();
        seenSix();
        strongBySeen();
        strongOfEachKind();
        seen();
        forget();
        strong();
        boastsHowMany();
        stones();
        hit();
        fromTenOn();
        lowestTerms();
        boasts();
        count();
        Checks.end("ForetoldEdgesTest");
    }

    private static void countIs(NobodyCave x, int what, int want) {
        Checks.due("count(" + what + ")", x.count(what), want);
    }

    private static void soonIs(NobodyCave x, int days, int lost) {
        Checks.due("soon(0)", x.soon(0), days);
        Checks.due("soon(1)", x.soon(1), lost);
    }

    private static void soonIsDays() {
        Checks.of("SOON: in how many DAYS he can be BLINDED at the soonest (0: now, by more CUPS;");
        for (int hard = 1; hard <= 9; hard++) {
            NobodyCave x = Checks.told("hard " + hard);
            for (int day = 0; day <= 10; day++) {
                soonIs(x, Math.max(0, hard - day), 0);
                x.day();
            }
        }
        NobodyCave x = Checks.told("hard 1;sleep 3");
        x.day();
        soonIs(x, 0, 0);
        Checks.due("only by more cups", x.blind(0), Checks.NOT);
        x.give(3);
        soonIs(x, 0, 0);
        NobodyCave last = Checks.told("hard 9");
        for (int day = 0; day < 99; day++) {
            last.day();
        }
        soonIs(last, 0, 0);
    }

    private static void soonByCupsOfTheDay() {
        Checks.of("CUPS there are all being GIVEN on that DAY, besides what he drank, if it is this one)");
        NobodyCave x = Checks.told("wine 6;sleep 5;hard 2");
        soonIs(x, 2, 0);
        x.give(1);
        soonIs(x, 2, 0);
        x.give(1);
        soonIs(x, Checks.NONE, Checks.NONE);
        x.undo();
        x.day();
        soonIs(x, 1, 0);
        x.day();
        soonIs(x, 0, 0);
        x.give(4);
        soonIs(x, 0, 0);
        x.day();
        soonIs(x, Checks.NONE, Checks.NONE);
        NobodyCave y = Checks.told("wine 9;sleep 9;hard 1");
        y.day();
        y.give(1);
        soonIs(y, 0, 0);
        y.give(8);
        soonIs(y, 0, 0);
    }

    private static void soonIsNone() {
        Checks.of("none: CUPS do not do, he is blind");
        soonIs(Checks.told("wine 0;sleep 1"), Checks.NONE, Checks.NONE);
        soonIs(Checks.told("wine 1;sleep 1"), 4, 0);
        soonIs(Checks.told("wine 8;sleep 9"), Checks.NONE, Checks.NONE);
        soonIs(Checks.told("wine 9;sleep 9"), 4, 0);
        NobodyCave x = Checks.told("man 1;wine 50;hard 1;sleep 1;eats 0");
        x.day();
        x.give(1);
        soonIs(x, 0, 0);
        x.blind(0);
        soonIs(x, Checks.NONE, Checks.NONE);
        x.day();
        soonIs(x, Checks.NONE, Checks.NONE);
        x.undo();
        x.undo();
        soonIs(x, 0, 0);
    }

    private static void lost() {
        Checks.of("LOST: how many would be EATEN till then");
        soonIs(Checks.told(SIX_MEN + ";eats 0;hard 9"), 9, 0);
        soonIs(Checks.told(SIX_MEN + ";eats 1;hard 5"), 5, 5);
        soonIs(Checks.told(SIX_MEN + ";eats 1;hard 6"), 6, 6);
        soonIs(Checks.told(SIX_MEN + ";eats 1;hard 7"), 7, 6);
        soonIs(Checks.told(SIX_MEN + ";eats 3;hard 9"), 9, 6);
        soonIs(Checks.told("eats 3;hard 9"), 9, 0);
        NobodyCave x = Checks.told(SIX_MEN + ";eats 2;hard 4");
        soonIs(x, 4, 6);
        x.day();
        soonIs(x, 3, 4);
        x.day();
        soonIs(x, 2, 2);
        x.day();
        soonIs(x, 1, 0);
        x.day();
        soonIs(x, 0, 0);
    }

    private static void lostWithoutNeighbours() {
        Checks.of("(not by NEIGHBOURS); none");
        soonIs(Checks.told(SIX_MEN + ";eats 1;hard 1;near 0;near 0;near 0;near 0"), 1, 1);
        soonIs(Checks.told(SIX_MEN + ";eats 1;hard 1;wine 2;near 0"), Checks.NONE, Checks.NONE);
    }

    private static void soon() {
        Checks.of("SOON (what 0), LOST (1); NONE. OUTSIDE.");
        NobodyCave x = Checks.told("man 1;man 1;man 1;eats 1;hard 2");
        Checks.due("soon(-1)", x.soon(-1), Checks.OUTSIDE);
        Checks.due("soon(0)", x.soon(0), 2);
        Checks.due("soon(1)", x.soon(1), 2);
        Checks.due("soon(2)", x.soon(2), Checks.OUTSIDE);
        NobodyCave none = Checks.told("wine 0");
        Checks.due("none, soon(-1)", none.soon(-1), Checks.OUTSIDE);
        Checks.due("none, soon(2)", none.soon(2), Checks.OUTSIDE);
    }

    private static void planIs(NobodyCave x, int... want) {
        int many = 0;
        for (int man = 0; man < want.length; man++) {
            Checks.due("plan(" + man + ")", x.plan(man), want[man]);
            many += want[man] == Checks.NONE ? 0 : 1;
        }
        Checks.due("plan(NONE)", x.plan(Checks.NONE), many);
        Checks.due("plan of one too many", x.plan(want.length), Checks.UNKNOWN);
    }

    private static void planOfThoseThere() {
        Checks.of("PLAN: MEN who are IN, each under a SHEEP that is not GONE, no two under one, or under none");
        int none = Checks.NONE;
        planIs(new NobodyCave());
        planIs(Checks.told("ram 9"));
        planIs(Checks.told("man 9"), none);
        planIs(Checks.told("man 9;woolly 8"), none);
        planIs(Checks.told("man 9;woolly 9"), 0);
        planIs(Checks.told("man 9;man 9;woolly 9"), 0, none);
        planIs(Checks.told(SIX_MEN + ";tied 1;tied 1;tied 1;tied 1;tied 1;tied 1"), 0, 1, none, none, none, none);
        NobodyCave x = Checks.told("man 1;man 1;man 1;man 1;ram 9;ram 9;ram 9;eats 1;hard 1;sleep 1");
        x.day();
        planIs(x, none, 0, 1, 2);
        x.give(1);
        x.blind(0);
        x.hide(1, 1);
        x.morning();
        planIs(x, none, none, 0, 2);
        x.hide(2, 0);
        x.hide(3, 2);
        x.morning();
        planIs(x, none, none, none, none);
    }

    private static void planWhoeverHides() {
        Checks.of("by which most would be OUT by THE MORNING (whoever HIDES now), each SHEEP bearing whom it has");
        NobodyCave x = Checks.told("man 9;man 3;woolly 3;woolly 9");
        planIs(x, 1, 0);
        x.hide(0, 0);
        x.hide(1, 1);
        planIs(x, 1, 0);
        Checks.due("who hides, hides yet", x.man(0, 2), 0);
        countIs(x, 13, 2);
    }

    private static void planTheFirst() {
        Checks.of("of several the first (by MEN, the lesser SHEEP, none behind all)");
        int none = Checks.NONE;
        planIs(Checks.told("man 1;man 1;man 1;ram 9;ram 9"), 0, 1, none);
        planIs(Checks.told("man 1;man 9;woolly 9;woolly 9"), 0, 1);
        planIs(Checks.told("man 1;man 9;woolly 9;woolly 1"), 1, 0);
        planIs(Checks.told("man 9;man 9;man 1;woolly 9;woolly 1"), 0, none, 1);
        planIs(Checks.told("man 9;man 1;woolly 1;woolly 9"), 1, 0);
        planIs(Checks.told("man 2;man 1;man 2;woolly 2;woolly 1;woolly 1"), 0, 1, none);
        planIs(Checks.told("man 20;man 1;man 20;man 1;ram 1;ram 2;ram 3"), none, 0, none, 1);
        planIs(Checks.told(SIX_MEN + ";woolly 6;woolly 6;woolly 6;woolly 6;woolly 6;woolly 6"), 0, 1, 2, 3, 4, 5);
        planIs(Checks.told(SIX_MEN + ";woolly 6;woolly 5;woolly 4;woolly 3;woolly 2;woolly 1"), 5, 4, 3, 2, 1, 0);
    }

    private static void plan() {
        Checks.of("PLAN: how many (man NONE), the SHEEP of a MAN (NONE: none, he is not IN). UNKNOWN.");
        NobodyCave x = Checks.told("man 1;man 1;man 20;ram 9;ram 9;eats 1");
        Checks.due("plan(-2)", x.plan(-2), Checks.UNKNOWN);
        Checks.due("plan(-1)", x.plan(-1), 2);
        Checks.due("plan(0)", x.plan(0), 0);
        Checks.due("plan(2): none bears him", x.plan(2), Checks.NONE);
        Checks.due("plan(3)", x.plan(3), Checks.UNKNOWN);
        x.day();
        Checks.due("he is not in", x.plan(0), Checks.NONE);
        Checks.due("how many", x.plan(Checks.NONE), 1);
        Checks.due("plan(MIN)", x.plan(Integer.MIN_VALUE), Checks.UNKNOWN);
        Checks.due("plan(MAX)", x.plan(Integer.MAX_VALUE), Checks.UNKNOWN);
    }

    private static void feelIs(NobodyCave x, int k, int which, int many) {
        Checks.due("feel(" + k + ", 0)", x.feel(k, 0), which);
        Checks.due("feel(" + k + ", 1)", x.feel(k, 1), many);
    }

    private static void feelOf() {
        Checks.of("FEEL of k (0 .. 6): SHEEP that are not GONE, k of them (all, if there are fewer)");
        NobodyCave x = Checks.told("man 1;man 1;man 1;man 1;ram 9;ram 9;ram 9;hard 1;sleep 1;eats 0");
        int[] which = {0, 1, 3, 7, 7, 7, 7};
        for (int k = 0; k <= 6; k++) {
            feelIs(x, k, which[k], Math.max(0, 3 - k));
        }
        x.day();
        x.give(1);
        x.blind(0);
        x.hide(0, 1);
        x.morning();
        int[] left = {0, 1, 5, 5, 5, 5, 5};
        for (int k = 0; k <= 6; k++) {
            feelIs(x, k, left[k], Math.max(0, 2 - k));
        }
        x.hide(1, 0);
        x.hide(2, 2);
        x.morning();
        for (int k = 0; k <= 6; k++) {
            feelIs(x, k, 0, 0);
        }
        feelIs(Checks.told("man 1"), 6, 0, 0);
        feelIs(Checks.told("ram 1;ram 1"), 1, 1, 0);
        feelIs(Checks.told("ram 1;ram 1;ram 1;ram 1;ram 1;ram 1"), 6, 63, 0);
    }

    private static void feelTheLeast() {
        Checks.of("those, were nobody under them, by which fewest would be OUT by PLAN; of several the least (bits); "
                + "how many.");
        NobodyCave x = Checks.told("man 9;man 9;woolly 1;woolly 9;woolly 8;woolly 9;woolly 2");
        feelIs(x, 0, 0, 2);
        feelIs(x, 1, 2, 1);
        feelIs(x, 2, 2 | 8, 0);
        feelIs(x, 3, 1 | 2 | 8, 0);
        feelIs(x, 4, 1 | 2 | 4 | 8, 0);
        feelIs(x, 5, 31, 0);
        NobodyCave alike = Checks.told(SIX_MEN + ";ram 6;ram 6;ram 6;ram 6;ram 6;ram 6");
        for (int k = 0; k <= 6; k++) {
            feelIs(alike, k, (1 << k) - 1, 6 - k);
        }
        feelIs(Checks.told("man 9;woolly 1;woolly 1;woolly 1"), 2, 3, 0);
        feelIs(Checks.told("man 9;man 1;woolly 9;woolly 9;woolly 9;woolly 1"), 1, 1, 2);
        feelIs(Checks.told("man 9;man 1;woolly 1;woolly 9"), 1, 1, 1);
        NobodyCave hidden = Checks.told("man 9;man 1;woolly 1;woolly 9");
        hidden.hide(1, 1);
        feelIs(hidden, 0, 0, 2);
        feelIs(hidden, 1, 1, 1);
    }

    private static void feel() {
        Checks.of("FEEL: which (what 0), how many would be OUT (1). OUTSIDE.");
        NobodyCave x = Checks.told("man 1;ram 1");
        Checks.due("feel(-1, 0)", x.feel(-1, 0), Checks.OUTSIDE);
        Checks.due("feel(0, 0)", x.feel(0, 0), 0);
        Checks.due("feel(0, 1)", x.feel(0, 1), 1);
        Checks.due("feel(6, 0)", x.feel(6, 0), 1);
        Checks.due("feel(6, 1)", x.feel(6, 1), 0);
        Checks.due("feel(7, 0)", x.feel(7, 0), Checks.OUTSIDE);
        Checks.due("feel(1, -1)", x.feel(1, -1), Checks.OUTSIDE);
        Checks.due("feel(1, 2)", x.feel(1, 2), Checks.OUTSIDE);
        Checks.due("feel(7, 2)", x.feel(7, 2), Checks.OUTSIDE);
        Checks.due("feel(MAX, 0)", x.feel(Integer.MAX_VALUE, 0), Checks.OUTSIDE);
        Checks.due("feel(MIN, 0)", x.feel(Integer.MIN_VALUE, 0), Checks.OUTSIDE);
    }

    private static void namesOfNobody() {
        Checks.of("NAMES by which nobody COMES (bits)");
        Checks.due("no neighbours", new NobodyCave().names(0), 255);
        Checks.due("one takes none", Checks.told("near 0").names(0), 0);
        Checks.due("one takes all", Checks.told("near 255").names(0), 255);
        Checks.due("the first name", Checks.told("near 255;near 1").names(0), 1);
        Checks.due("the last name", Checks.told("near 129;near 192;near 128;near 255").names(0), 128);
        Checks.due("none by all four", Checks.told("near 254;near 253;near 3;near 255").names(0), 0);
    }

    private static void nameOfFewest() {
        Checks.of("the NAME by which fewest COME, of several the least");
        Checks.due("no neighbours", new NobodyCave().names(1), 0);
        Checks.due("all come by all", Checks.told("near 0;near 0;near 0;near 0").names(1), 0);
        Checks.due("nobody comes by any", Checks.told("near 255").names(1), 0);
        Checks.due("the last name", Checks.told("near 128").names(1), 7);
        Checks.due("of two alike", Checks.told("near 96").names(1), 5);
        Checks.due("fewer, though behind", Checks.told("near 1;near 128;near 129;near 128").names(1), 7);
        Checks.due("three of four", Checks.told("near 0;near 0;near 0;near 24").names(1), 3);
    }

    private static void names() {
        Checks.of("NAMES: those (what 0), the NAME (1). OUTSIDE.");
        NobodyCave x = Checks.told("near 12");
        Checks.due("names(-1)", x.names(-1), Checks.OUTSIDE);
        Checks.due("names(0)", x.names(0), 12);
        Checks.due("names(1)", x.names(1), 2);
        Checks.due("names(2)", x.names(2), Checks.OUTSIDE);
        Checks.due("names(MIN)", x.names(Integer.MIN_VALUE), Checks.OUTSIDE);
        Checks.due("names(MAX)", x.names(Integer.MAX_VALUE), Checks.OUTSIDE);
    }

    private static void cameBy() {
        Checks.of("CAME: NAMES (bits) by which just a SET of NEIGHBOURS COMES.");
        Checks.due("nobody of none", new NobodyCave().came(0), 255);
        NobodyCave x = Checks.told("near 15;near 3;near 1;near 1");
        Checks.due("nobody", x.came(0), 1);
        Checks.due("two", x.came(12), 2);
        Checks.due("just one of the two", x.came(4), 0);
        Checks.due("three", x.came(14), 12);
        Checks.due("all", x.came(15), 240);
    }

    private static void came() {
        Checks.of("UNKNOWN (no such MAN, SHEEP, NEIGHBOUR; a SET with such)");
        for (int n = 0; n <= 4; n++) {
            NobodyCave x = Checks.told("wine 1" + ";near 0".repeat(n));
            Checks.due("all of " + n, x.came((1 << n) - 1), 255);
            Checks.due("one too many", x.came(1 << n), Checks.UNKNOWN);
            Checks.due("all and one too many", x.came((2 << n) - 1), Checks.UNKNOWN);
            Checks.due("came(-1)", x.came(-1), Checks.UNKNOWN);
            Checks.due("came(MIN)", x.came(Integer.MIN_VALUE), Checks.UNKNOWN);
            Checks.due("came(MAX)", x.came(Integer.MAX_VALUE), Checks.UNKNOWN);
        }
    }

    private static void seenSix() {
        Checks.of("SEEN, 6 at most: a MAN was OUT under a SHEEP (1), or not (0).");
        NobodyCave x = Checks.told("man 5;man 6;woolly 1;woolly 1");
        for (int n = 1; n <= 6; n++) {
            Checks.due("seen " + n, x.seen(0, 0, 1), n);
        }
        Checks.due("a seventh", x.seen(1, 0, 0), Checks.FULL);
        countIs(x, 12, 6);
        Checks.due("the seventh does not count", x.strong(0, 1), 20);
        Checks.due("the six do", x.strong(0, 0), 5);
        Checks.due("a seventh of another", x.seen(1, 1, 0), Checks.FULL);
        x.forget();
        Checks.due("room again", x.seen(1, 0, 0), 1);
    }

    private static void strongIs(NobodyCave x, int sheep, int least, int greatest) {
        Checks.due("strong(" + sheep + ", 0)", x.strong(sheep, 0), least);
        Checks.due("strong(" + sheep + ", 1)", x.strong(sheep, 1), greatest);
    }

    private static void strongBySeen() {
        Checks.of("STRONG of a SHEEP: the least, the greatest (1 .. 20) by which all that is SEEN of it would be so");
        NobodyCave x = Checks.told("man 1;man 20;man 10;man 11;woolly 5;woolly 5;woolly 5;woolly 5");
        strongIs(x, 0, 1, 20);
        x.seen(0, 0, 1);
        strongIs(x, 0, 1, 20);
        x.seen(1, 0, 1);
        strongIs(x, 0, 20, 20);
        x.seen(1, 1, 0);
        strongIs(x, 1, 1, 19);
        x.seen(2, 1, 1);
        strongIs(x, 1, 10, 19);
        x.seen(3, 1, 0);
        strongIs(x, 1, 10, 10);
        x.seen(0, 2, 0);
        strongIs(x, 2, Checks.NONE, Checks.NONE);
        strongIs(x, 3, 1, 20);
        x.forget();
        x.seen(2, 3, 1);
        x.seen(2, 3, 0);
        strongIs(x, 3, Checks.NONE, Checks.NONE);
        strongIs(x, 2, 1, 20);
        Checks.due("as told yet", x.sheep(3, 1), 5);
        NobodyCave weak = Checks.told("man 1;man 2;woolly 9");
        weak.seen(0, 0, 1);
        weak.seen(1, 0, 0);
        strongIs(weak, 0, 1, 1);
    }

    private static void strongOfEachKind() {
        Checks.of("its KIND as told; none");
        NobodyCave x = Checks.told("man 1;man 20;ram 1;tied 1;bell 1");
        x.seen(0, 0, 0);
        x.seen(0, 1, 0);
        x.seen(0, 2, 0);
        strongIs(x, 0, Checks.NONE, Checks.NONE);
        strongIs(x, 1, Checks.NONE, Checks.NONE);
        strongIs(x, 2, 1, 3);
        x.forget();
        x.seen(1, 0, 1);
        x.seen(1, 1, 1);
        x.seen(1, 2, 1);
        strongIs(x, 0, 14, 20);
        strongIs(x, 1, 10, 20);
        strongIs(x, 2, Checks.NONE, Checks.NONE);
        x.forget();
        x.seen(1, 0, 0);
        x.seen(1, 1, 0);
        x.seen(1, 2, 0);
        strongIs(x, 0, 1, 13);
        strongIs(x, 1, 1, 9);
        strongIs(x, 2, 1, 20);
        x.seen(0, 2, 1);
        strongIs(x, 2, 4, 20);
    }

    private static void seen() {
        Checks.of("SEEN: how many. UNKNOWN; OUTSIDE (out 0, 1); FULL.");
        NobodyCave x = Checks.told("man 1;man 1;ram 1;ram 1;ram 1");
        Checks.due("man -1", x.seen(-1, 0, 0), Checks.UNKNOWN);
        Checks.due("man 2", x.seen(2, 0, 0), Checks.UNKNOWN);
        Checks.due("sheep -1", x.seen(0, -1, 0), Checks.UNKNOWN);
        Checks.due("sheep 3", x.seen(0, 3, 0), Checks.UNKNOWN);
        Checks.due("out -1", x.seen(0, 0, -1), Checks.OUTSIDE);
        Checks.due("out 2", x.seen(0, 0, 2), Checks.OUTSIDE);
        Checks.due("man 2, out 2", x.seen(2, 0, 2), Checks.UNKNOWN);
        Checks.due("sheep 3, out 2", x.seen(0, 3, 2), Checks.UNKNOWN);
        countIs(x, 12, 0);
        Checks.due("the last of each", x.seen(1, 2, 1), 1);
        for (int n = 2; n <= 6; n++) {
            Checks.due("seen " + n, x.seen(0, 0, 0), n);
        }
        Checks.due("full", x.seen(0, 0, 0), Checks.FULL);
        Checks.due("full, man 2", x.seen(2, 0, 0), Checks.UNKNOWN);
        Checks.due("full, sheep 3", x.seen(0, 3, 0), Checks.UNKNOWN);
        Checks.due("full, out 2", x.seen(0, 0, 2), Checks.OUTSIDE);
        countIs(x, 12, 6);
        countIs(x, 13, 0);
    }

    private static void forget() {
        Checks.of("SEEN is nothing: how many there were.");
        NobodyCave x = Checks.told("man 9;woolly 1");
        Checks.due("of none", x.forget(), 0);
        x.seen(0, 0, 1);
        Checks.due("of one", x.forget(), 1);
        for (int n = 0; n < 7; n++) {
            x.seen(0, 0, 1);
        }
        strongIs(x, 0, 9, 20);
        Checks.due("of six", x.forget(), 6);
        countIs(x, 12, 0);
        strongIs(x, 0, 1, 20);
        Checks.due("of none again", x.forget(), 0);
    }

    private static void strong() {
        Checks.of("STRONG: the least (what 0), the greatest (1); NONE. UNKNOWN; OUTSIDE.");
        NobodyCave x = Checks.told("man 9;woolly 1;woolly 1");
        Checks.due("sheep -1", x.strong(-1, 0), Checks.UNKNOWN);
        Checks.due("sheep 2", x.strong(2, 0), Checks.UNKNOWN);
        Checks.due("sheep 2, what 2", x.strong(2, 2), Checks.UNKNOWN);
        Checks.due("what -1", x.strong(1, -1), Checks.OUTSIDE);
        Checks.due("what 2", x.strong(1, 2), Checks.OUTSIDE);
        x.seen(0, 1, 1);
        x.seen(0, 1, 0);
        strongIs(x, 1, Checks.NONE, Checks.NONE);
        Checks.due("none, what 2", x.strong(1, 2), Checks.OUTSIDE);
    }

    private static void oddsAre(int n, int d, int r, int b, int above, int below) {
        NobodyCave x = new NobodyCave();
        String call = "boasts(" + n + ", " + d + ", " + r + ", " + b + ", ";
        Checks.due(call + "0)", x.boasts(n, d, r, b, 0), above);
        Checks.due(call + "1)", x.boasts(n, d, r, b, 1), below);
    }

    private static void boastsHowMany() {
        Checks.of("BOASTS: n of them (0 .. 6), the i-th (0 first) at d and i times r (d 0 .. 20, r 0 .. 5)");
        oddsAre(0, 0, 0, 0, 1, 1);
        oddsAre(0, 20, 5, 9, 1, 1);
        oddsAre(1, 0, 0, 0, 4, 5);
        oddsAre(6, 0, 0, 0, 4096, 15625);
        // The first is at d itself, whatever r is: from 10 on it would be missed.
        oddsAre(1, 9, 5, 0, 4, 5);
        oddsAre(2, 9, 0, 0, 16, 25);
        oddsAre(2, 9, 1, 0, 4, 5);
        oddsAre(6, 5, 1, 0, 1024, 3125);
        oddsAre(6, 20, 5, 8, 0, 1);
        oddsAre(6, 20, 5, 7, 0, 1);
        oddsAre(6, 20, 5, 6, 24, 625);
    }

    private static void stones() {
        Checks.of("to each he throws a stone that falls 0, 1, 2, 3 or 4 short, each as likely");
        oddsAre(1, 0, 0, 0, 4, 5);
        oddsAre(1, 0, 0, 1, 3, 5);
        oddsAre(1, 0, 0, 2, 2, 5);
        oddsAre(1, 0, 0, 3, 1, 5);
        oddsAre(1, 0, 0, 4, 0, 1);
    }

    private static void hit() {
        Checks.of("the boat, which is b (0 .. 9) long from where the voice is towards him, is hit, if it falls no more "
                + "than b short");
        for (int b = 4; b <= 9; b++) {
            oddsAre(1, 9, 0, b, 0, 1);
        }
        oddsAre(1, 10, 0, 0, 1, 1);
        oddsAre(1, 20, 0, 0, 1, 1);
        oddsAre(1, 20, 0, 9, 0, 1);
        oddsAre(6, 0, 0, 9, 0, 1);
    }

    private static void fromTenOn() {
        Checks.of("but from 10 on (how far the voice is) b is 1 less for each 5 begun");
        int[] far = {0, 9, 10, 11, 14, 15, 19, 20};
        int[] less = {0, 0, 1, 1, 1, 2, 2, 3};
        for (int i = 0; i < far.length; i++) {
            // A boat of 3 and what it is less is as one of 3 near by.
            oddsAre(1, far[i], 0, 3 + less[i], 1, 5);
            oddsAre(1, far[i], 0, less[i], 4, 5);
            if (less[i] > 0) {
                oddsAre(1, far[i], 0, less[i] - 1, 1, 1);
            }
        }
        // Voices at 20, 25 .. 45: the boat is less by 3, 4 .. 8.
        oddsAre(6, 20, 5, 5, 24, 125);
        oddsAre(6, 20, 5, 3, 4, 5);
        oddsAre(6, 20, 5, 2, 1, 1);
        oddsAre(2, 20, 4, 3, 16, 25);
        oddsAre(2, 20, 5, 3, 4, 5);
    }

    private static void lowestTerms() {
        Checks.of("Parts are told in lowest terms: above (part 0), below (1).");
        oddsAre(2, 9, 1, 0, 4, 5);
        oddsAre(6, 9, 1, 0, 4, 5);
        oddsAre(6, 10, 0, 0, 1, 1);
        oddsAre(6, 0, 5, 3, 24, 3125);
        oddsAre(6, 5, 5, 4, 0, 1);
        oddsAre(6, 20, 5, 4, 12, 25);
    }

    private static void boasts() {
        Checks.of("BOASTS. OUTSIDE.");
        int[] most = {6, 20, 5, 9, 1};
        NobodyCave x = new NobodyCave();
        for (int which = 0; which < 5; which++) {
            for (int wrong : new int[] {-1, most[which] + 1, Integer.MIN_VALUE, Integer.MAX_VALUE}) {
                int[] a = {0, 0, 0, 0, 0};
                a[which] = wrong;
                Checks.due("number " + which + " is " + wrong, x.boasts(a[0], a[1], a[2], a[3], a[4]), Checks.OUTSIDE);
            }
            int[] a = {0, 0, 0, 0, 0};
            a[which] = most[which];
            int want = which == 0 ? 4096 : 1;
            Checks.due("number " + which + " is the most", x.boasts(a[0], a[1], a[2], a[3], a[4]), want);
        }
    }

    private static void count() {
        Checks.of("14 letters of THE TEXT. OUTSIDE.");
        NobodyCave x = Checks.told(SIX_MEN + ";woolly 9;woolly 9;woolly 9;woolly 9;woolly 9;woolly 9");
        Checks.say(x, "near 1;near 1;near 1;near 1;wine 50;sleep 1;hard 9;eats 0");
        for (int what = 0; what <= 14; what++) {
            countIs(x, what, new int[] {6, 6, 4, 0, 50, 0, 0, 0, 63, 0, 0, 0, 0, 0, 0}[what]);
        }
        for (int n = 0; n < 99; n++) {
            x.day();
        }
        x.give(50);
        x.blind(0);
        for (int man = 0; man < 6; man++) {
            x.hide(man, man);
            x.seen(man, man, 1);
        }
        x.morning();
        x.write(';');
        for (int what = 0; what <= 14; what++) {
            countIs(x, what, new int[] {6, 6, 4, 99, 0, 50, 9, 1, 0, 63, 0, 63, 6, 8, 1}[what]);
        }
        for (int what : new int[] {-1, 15, Integer.MIN_VALUE, Integer.MAX_VALUE}) {
            countIs(x, what, Checks.OUTSIDE);
        }
    }
}
