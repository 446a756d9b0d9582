import java.util.function.Supplier;
import java.util.function.ToIntFunction;

/**
 * "Refused, and nothing changes: .. the first of these that fits": each refused call is made on a cave of which there is
 * a twin without that call; behind it both must answer alike, whatever is asked, undone, brought back or told.
 */
public final class RefusedTest {
    private static final int UNKNOWN = Checks.UNKNOWN, OUTSIDE = Checks.OUTSIDE, NOT = Checks.NOT, FULL = Checks.FULL,
            NONE = Checks.NONE;
    private static final int MIN = Integer.MIN_VALUE, MAX = Integer.MAX_VALUE;

    public static void main(String[] args) {
        caves();
        letters();
        texts();
        unknown();
        unknownInAnEmptyCave();
        outside();
        giving();
        days();
        blinding();
        hiding();
        mornings();
        undoing();
        keeping();
        sights();
        firstThatFits();
        askingChangesNothing();
        Checks.end("RefusedTest");
    }

    /** Day 2 of him who sees, men 0 and 1 eaten, 2 hid, 3 not; kept at 0; 5 can be undone; 2 seen; "wine 7" is written. */
    private static NobodyCave seeing() {
        NobodyCave x = new NobodyCave();
        put(x, "man 3;man 9;man 4;man 2;ram 3;bell 5;near 6;hard 2;eats 1");
        x.cave();
        x.hide(2, 1);
        x.keep(0);
        x.day();
        x.give(2);
        x.day();
        x.give(1);
        x.seen(0, 0, 1);
        x.seen(1, 1, 0);
        put(x, "wine 7");
        return x;
    }

    /** Such a cave with the giant blind: man 2 out with sheep 0, man 3 under sheep 1; kept at 1. */
    private static NobodyCave blinded() {
        NobodyCave x = seeing();
        x.give(2);
        x.blind(1);
        x.hide(2, 0);
        x.morning();
        x.hide(3, 1);
        x.keep(1);
        x.day();
        return x;
    }

    /** Such a cave with no room: eight deeds can be undone, six are seen. */
    private static NobodyCave full() {
        NobodyCave x = blinded();
        for (int n = 0; n < 4; n++) {
            x.day();
            x.seen(2, 1, 1);
        }
        return x;
    }

    private static NobodyCave lastDay() {
        NobodyCave x = seeing();
        for (int day = 2; day < 99; day++) {
            x.day();
        }
        x.give(1);
        return x;
    }

    private static void put(NobodyCave x, String text) {
        for (int i = 0; i < text.length(); i++) {
            x.write(text.charAt(i));
        }
    }

    private static void deeds(NobodyCave x, StringBuilder all) {
        for (int what = 3; what <= 11; what++) {
            all.append(x.count(what)).append(' ');
        }
        for (int man = 0; man < 4; man++) {
            all.append(x.man(man, 2)).append(' ');
        }
        all.append("/ ");
    }

    /** All that can be told from a cave: what it is, what can be undone, what is kept, what its text tells. */
    private static String all(NobodyCave x) {
        StringBuilder all = new StringBuilder(Checks.state(x)).append(" undone: ");
        for (int n = 0; n < 9; n++) {
            all.append(x.undo()).append(": ");
            deeds(x, all);
        }
        for (int k = 0; k < 2; k++) {
            all.append(x.back(k)).append(": ");
            deeds(x, all);
        }
        all.append(x.cave()).append(": ").append(x.count(4)).append(' ').append(x.count(0));
        return all.toString();
    }

    private static void refuse(String what, Supplier<NobodyCave> cave, int want, ToIntFunction<NobodyCave> call) {
        NobodyCave x = cave.get();
        Checks.due(what, call.applyAsInt(x), want);
        Checks.alike(what, all(x), all(cave.get()));
    }

    /** A call that is refused in each of the caves. */
    private static void refuseInAll(String what, int want, ToIntFunction<NobodyCave> call) {
        refuse(what + ", he sees", RefusedTest::seeing, want, call);
        refuse(what + ", he is blind", RefusedTest::blinded, want, call);
        refuse(what + ", no room", RefusedTest::full, want, call);
    }

    /** The caves are what the tests take them for. */
    private static void caves() {
        Checks.of("Refused, and nothing changes");
        int[] seeing = {4, 2, 1, 2, 9, 1, 2, 0, 12, 0, 3, 0, 2, 5, 6};
        int[] blinded = {4, 2, 1, 3, 7, 0, 3, 1, 8, 4, 3, 1, 2, 8, 6};
        int[] full = {4, 2, 1, 7, 7, 0, 7, 1, 8, 4, 3, 1, 6, 8, 6};
        for (int what = 0; what <= 14; what++) {
            Checks.due("seeing: count(" + what + ")", seeing().count(what), seeing[what]);
            Checks.due("blinded: count(" + what + ")", blinded().count(what), blinded[what]);
            Checks.due("full: count(" + what + ")", full().count(what), full[what]);
        }
        Checks.due("seeing: who hides", seeing().sheep(1, 3), 2);
        Checks.due("blinded: who hides", blinded().sheep(1, 3), 3);
        Checks.due("the last day", lastDay().count(3), 99);
    }

    private static void letters() {
        Checks.of("A letter (its number, 0 .. 255) more of THE TEXT: how many it has. OUTSIDE; FULL.");
        for (int letter : new int[] {-1, 256, MIN, MAX}) {
            refuseInAll("write(" + letter + ")", OUTSIDE, x -> x.write(letter));
        }
        Supplier<NobodyCave> written = () -> {
            NobodyCave x = new NobodyCave();
            put(x, " ".repeat(154) + "wine 7");
            return x;
        };
        refuse("write('1') of a 161st", written, FULL, x -> x.write('1'));
        refuse("write(256) of a 161st", written, OUTSIDE, x -> x.write(256));
    }

    private static void texts() {
        Checks.of("NOT: it has a FAULT.");
        for (String text : new String[] {"", " ", "man", "man 0", "man 3;", "man 3;ram 0", "cave;man 3;x",
            "wine 3;sleep 1;hard 1;eats 3;near 1;man 1;tied 1;bell 1;woolly 1;ram 21"}) {
            Supplier<NobodyCave> written = () -> {
                NobodyCave x = blinded();
                x.erase();
                put(x, text);
                return x;
            };
            refuse("cave() of '" + text + "'", written, NOT, x -> x.cave());
        }
    }

    private static void unknown() {
        Checks.of("UNKNOWN (no such MAN, SHEEP, NEIGHBOUR; a SET with such)");
        for (int i : new int[] {MIN, -2, -1, 4, 6, MAX}) {
            refuseInAll("man(" + i + ", 0)", UNKNOWN, x -> x.man(i, 0));
            refuseInAll("hide(" + i + ", 1)", UNKNOWN, x -> x.hide(i, 1));
            refuseInAll("hide(" + i + ", NONE)", UNKNOWN, x -> x.hide(i, NONE));
            refuseInAll("seen(" + i + ", 0, 0)", UNKNOWN, x -> x.seen(i, 0, 0));
            if (i != NONE) {
                refuseInAll("plan(" + i + ")", UNKNOWN, x -> x.plan(i));
            }
        }
        for (int i : new int[] {MIN, -2, -1, 2, 6, MAX}) {
            refuseInAll("sheep(" + i + ", 0)", UNKNOWN, x -> x.sheep(i, 0));
            refuseInAll("as(" + i + ", 0)", UNKNOWN, x -> x.as(i, 0));
            refuseInAll("seen(0, " + i + ", 0)", UNKNOWN, x -> x.seen(0, i, 0));
            refuseInAll("strong(" + i + ", 0)", UNKNOWN, x -> x.strong(i, 0));
            if (i != NONE) {
                refuseInAll("hide(3, " + i + ")", UNKNOWN, x -> x.hide(3, i));
            }
        }
        for (int i : new int[] {MIN, -1, 1, 4, MAX}) {
            refuseInAll("near(" + i + ")", UNKNOWN, x -> x.near(i));
        }
        for (int set : new int[] {MIN, -1, 2, 3, 16, MAX}) {
            refuseInAll("came(" + set + ")", UNKNOWN, x -> x.came(set));
        }
        for (int k : new int[] {MIN, -1, 2, MAX}) {
            refuseInAll("keep(" + k + ")", UNKNOWN, x -> x.keep(k));
            refuseInAll("back(" + k + ")", UNKNOWN, x -> x.back(k));
        }
    }

    private static void unknownInAnEmptyCave() {
        Checks.of("An empty cave.");
        Supplier<NobodyCave> empty = NobodyCave::new;
        refuse("man(0, 0)", empty, UNKNOWN, x -> x.man(0, 0));
        refuse("sheep(0, 0)", empty, UNKNOWN, x -> x.sheep(0, 0));
        refuse("near(0)", empty, UNKNOWN, x -> x.near(0));
        refuse("as(0, 0)", empty, UNKNOWN, x -> x.as(0, 0));
        refuse("hide(0, 0)", empty, UNKNOWN, x -> x.hide(0, 0));
        refuse("hide(0, NONE)", empty, UNKNOWN, x -> x.hide(0, NONE));
        refuse("hide(NONE, NONE)", empty, UNKNOWN, x -> x.hide(NONE, NONE));
        refuse("plan(0)", empty, UNKNOWN, x -> x.plan(0));
        refuse("came(1)", empty, UNKNOWN, x -> x.came(1));
        refuse("seen(0, 0, 0)", empty, UNKNOWN, x -> x.seen(0, 0, 0));
        refuse("strong(0, 0)", empty, UNKNOWN, x -> x.strong(0, 0));
        refuse("cave()", empty, NOT, x -> x.cave());
        refuse("blind(0)", empty, NOT, x -> x.blind(0));
        refuse("morning()", empty, NOT, x -> x.morning());
        refuse("undo()", empty, NOT, x -> x.undo());
        refuse("back(0)", empty, NOT, x -> x.back(0));
    }

    private static void outside() {
        Checks.of("OUTSIDE (another number is not as told)");
        for (int low : new int[] {MIN, -1}) {
            outsideBy(low, low, low, low, low, low);
        }
        outsideBy(2, 3, 4, 5, 8, 15);
        outsideBy(MAX, MAX, MAX, MAX, MAX, MAX);
        for (int k : new int[] {MIN, -1, 7, MAX}) {
            refuseInAll("feel(" + k + ", 0)", OUTSIDE, x -> x.feel(k, 0));
        }
        for (int cups : new int[] {MIN, -1, 0, 51, MAX}) {
            refuseInAll("give(" + cups + ")", OUTSIDE, x -> x.give(cups));
        }
    }

    /** What is outside for what has 2, 3, 4, 5, 8 and 15 numbers from 0 on. */
    private static void outsideBy(int two, int three, int four, int five, int eight, int fifteen) {
        refuseInAll("man(0, " + three + ")", OUTSIDE, x -> x.man(0, three));
        refuseInAll("sheep(0, " + four + ")", OUTSIDE, x -> x.sheep(0, four));
        refuseInAll("as(0, " + five + ")", OUTSIDE, x -> x.as(0, five));
        refuseInAll("blind(" + eight + ")", OUTSIDE, x -> x.blind(eight));
        refuseInAll("soon(" + two + ")", OUTSIDE, x -> x.soon(two));
        refuseInAll("feel(0, " + two + ")", OUTSIDE, x -> x.feel(0, two));
        refuseInAll("names(" + two + ")", OUTSIDE, x -> x.names(two));
        refuseInAll("seen(0, 0, " + two + ")", OUTSIDE, x -> x.seen(0, 0, two));
        refuseInAll("strong(0, " + two + ")", OUTSIDE, x -> x.strong(0, two));
        refuseInAll("boasts(0, 0, 0, 0, " + two + ")", OUTSIDE, x -> x.boasts(0, 0, 0, 0, two));
        refuseInAll("count(" + fifteen + ")", OUTSIDE, x -> x.count(fifteen));
    }

    private static void giving() {
        Checks.of("NOT: he is blind, there are not so many.");
        refuse("give(1) to the blind", RefusedTest::blinded, NOT, x -> x.give(1));
        refuse("give(10) of 9", RefusedTest::seeing, NOT, x -> x.give(10));
        refuse("give(50) of 9", RefusedTest::seeing, NOT, x -> x.give(50));
        Checks.due("give(9) of 9", seeing().give(9), 10);
    }

    private static void days() {
        Checks.of("FULL: it is DAY 99.");
        refuse("day() on DAY 99", RefusedTest::lastDay, FULL, x -> x.day());
    }

    private static void blinding() {
        Checks.of("BLINDED, if he sees, is asleep, and THE STAKE is HARD or harder");
        refuse("blind(0), awake", RefusedTest::seeing, NOT, x -> x.blind(0));
        refuse("blind(0), blind", RefusedTest::blinded, NOT, x -> x.blind(0));
        Supplier<NobodyCave> soft = () -> {
            NobodyCave x = seeing();
            x.undo();
            x.undo();
            x.give(5);
            return x;
        };
        refuse("blind(0), too soft", soft, NOT, x -> x.blind(0));
    }

    private static void hiding() {
        Checks.of("NOT: he is not IN; it is GONE, somebody is under it (he too), he is under none.");
        refuse("eaten", RefusedTest::seeing, NOT, x -> x.hide(0, 0));
        refuse("eaten, none", RefusedTest::seeing, NOT, x -> x.hide(0, NONE));
        refuse("out", RefusedTest::blinded, NOT, x -> x.hide(2, 1));
        refuse("out, none", RefusedTest::blinded, NOT, x -> x.hide(2, NONE));
        refuse("gone", RefusedTest::blinded, NOT, x -> x.hide(3, 0));
        refuse("he is under it", RefusedTest::blinded, NOT, x -> x.hide(3, 1));
        refuse("somebody is under it", RefusedTest::seeing, NOT, x -> x.hide(3, 1));
        refuse("under none", RefusedTest::seeing, NOT, x -> x.hide(3, NONE));
    }

    private static void mornings() {
        Checks.of("NOT: he sees.");
        refuse("morning()", RefusedTest::seeing, NOT, x -> x.morning());
        Supplier<NobodyCave> asleep = () -> {
            NobodyCave x = seeing();
            x.give(9);
            return x;
        };
        refuse("morning(), he sleeps", asleep, NOT, x -> x.morning());
    }

    private static void undoing() {
        Checks.of("how many can be undone yet. NOT: none.");
        Supplier<NobodyCave> undone = () -> {
            NobodyCave x = full();
            for (int n = 0; n < 8; n++) {
                x.undo();
            }
            return x;
        };
        refuse("undo() of none", undone, NOT, x -> x.undo());
        Supplier<NobodyCave> broughtBack = () -> {
            NobodyCave x = full();
            x.back(0);
            return x;
        };
        refuse("undo() behind back()", broughtBack, NOT, x -> x.undo());
    }

    private static void keeping() {
        Checks.of("UNKNOWN; NOT: nothing was kept since the last text.");
        refuse("back(1) of nothing", RefusedTest::seeing, NOT, x -> x.back(1));
        Supplier<NobodyCave> anew = () -> {
            NobodyCave x = blinded();
            x.cave();
            x.day();
            return x;
        };
        refuse("back(0) behind a text", anew, NOT, x -> x.back(0));
        refuse("back(1) behind a text", anew, NOT, x -> x.back(1));
    }

    private static void sights() {
        Checks.of("SEEN: how many. UNKNOWN; OUTSIDE (out 0, 1); FULL.");
        refuse("a seventh", RefusedTest::full, FULL, x -> x.seen(0, 0, 0));
        refuse("a seventh, out", RefusedTest::full, FULL, x -> x.seen(2, 1, 1));
    }

    /** Two reasons or three at once: UNKNOWN goes before OUTSIDE, OUTSIDE before NOT and FULL. */
    private static void firstThatFits() {
        Checks.of("the first of these that fits");
        refuseInAll("man(4, 3)", UNKNOWN, x -> x.man(4, 3));
        refuseInAll("sheep(2, 4)", UNKNOWN, x -> x.sheep(2, 4));
        refuseInAll("as(2, 5)", UNKNOWN, x -> x.as(2, 5));
        refuseInAll("strong(2, 2)", UNKNOWN, x -> x.strong(2, 2));
        refuseInAll("seen(4, 0, 2)", UNKNOWN, x -> x.seen(4, 0, 2));
        refuseInAll("seen(0, 2, 2)", UNKNOWN, x -> x.seen(0, 2, 2));
        refuse("seen(0, 0, 2), full", RefusedTest::full, OUTSIDE, x -> x.seen(0, 0, 2));
        refuse("hide(0, 2), eaten", RefusedTest::blinded, UNKNOWN, x -> x.hide(0, 2));
        refuse("hide(4, 0), gone", RefusedTest::blinded, UNKNOWN, x -> x.hide(4, 0));
        refuse("give(51), blind", RefusedTest::blinded, OUTSIDE, x -> x.give(51));
        refuse("give(51) of 9", RefusedTest::seeing, OUTSIDE, x -> x.give(51));
        refuse("blind(8), awake", RefusedTest::seeing, OUTSIDE, x -> x.blind(8));
        refuse("blind(8), blind", RefusedTest::blinded, OUTSIDE, x -> x.blind(8));
        refuse("as(0, 5), no such kind", RefusedTest::seeing, OUTSIDE, x -> x.as(0, 5));
        refuse("as(0, 4), none such", RefusedTest::seeing, NOT, x -> x.as(0, 4));
        refuse("as(1, 1), none such", RefusedTest::seeing, NOT, x -> x.as(1, 1));
        refuse("back(2), nothing kept", NobodyCave::new, UNKNOWN, x -> x.back(2));
    }

    private static void unchanged(String what, ToIntFunction<NobodyCave> call) {
        NobodyCave x = seeing();
        call.applyAsInt(x);
        Checks.alike(what + ", he sees", all(x), all(seeing()));
        NobodyCave y = full();
        call.applyAsInt(y);
        Checks.alike(what + ", he is blind", all(y), all(full()));
    }

    private static void askingChangesNothing() {
        Checks.of("FORETOLD (nothing changes).");
        unchanged("fault()", x -> x.fault());
        for (int i = 0; i < 3; i++) {
            int n = i;
            unchanged("man(0, " + n + ")", x -> x.man(0, n));
            unchanged("sheep(1, " + n + ")", x -> x.sheep(1, n));
            unchanged("as(1, " + n + ")", x -> x.as(1, n));
            unchanged("near(" + n + ")", x -> x.near(n));
            unchanged("soon(" + n + ")", x -> x.soon(n));
            unchanged("plan(" + n + ")", x -> x.plan(n));
            unchanged("feel(" + n + ", 0)", x -> x.feel(n, 0));
            unchanged("feel(" + n + ", 1)", x -> x.feel(n, 1));
            unchanged("names(" + n + ")", x -> x.names(n));
            unchanged("came(" + n + ")", x -> x.came(n));
            unchanged("strong(0, " + n + ")", x -> x.strong(0, n));
            unchanged("boasts(6, 9, 1, 1, " + n + ")", x -> x.boasts(6, 9, 1, 1, n));
        }
        unchanged("plan(NONE)", x -> x.plan(NONE));
        for (int what = 0; what <= 14; what++) {
            int n = what;
            unchanged("count(" + n + ")", x -> x.count(n));
        }
    }
}
