/** The document's sentences that name an edge, each with a test of its own: a new cave, the text, promises 1 to 5. */
public final class TextEdgesTest {
    private static final String SIX_MEN = "man 1;man 2;man 3;man 4;man 5;man 6";
    private static final String SIX_SHEEP = "woolly 1;ram 2;tied 3;bell 4;woolly 5;ram 6";
    private static final String FOUR_NEAR = "near 1;near 2;near 3;near 4";

    public static void main(String[] args) {
        emptyCave();
        cavesApart();
        manyCalls();
        men();
        weight();
        inAtFirst();
        sheep();
        strong();
        neighbours();
        takes();
        cups();
        sleep();
        hard();
        eats();
        lettersOfText();
        clauses();
        wordsAsWritten();
        withoutPoints();
        caveClause();
        seventhMan();
        seventhSheep();
        fifthNeighbour();
        smallLetters();
        digits();
        blanks();
        earlierTexts();
        firstToken();
        outOfBounds();
        endTooSoon();
        inTheirOrder();
        behindTheClauses();
        nothingSeenKeptUndone();
        write();
        erase();
        fault();
        cave();
        Checks.end("TextEdgesTest");
    }

    private static void countIs(NobodyCave x, int what, int want) {
        Checks.due("count(" + what + ")", x.count(what), want);
    }

    /** A cave whose giant can be blinded on day 1 by one cup, and eats nobody. */
    private static NobodyCave easy(String text) {
        return Checks.told(text + ";sleep 1;hard 1;eats 0");
    }

    private static void emptyCave() {
        Checks.of("An empty cave.");
        NobodyCave x = new NobodyCave();
        for (int what = 0; what <= 14; what++) {
            countIs(x, what, what == 4 ? 12 : 0);
        }
        Checks.due("man(0, 0)", x.man(0, 0), Checks.UNKNOWN);
        Checks.due("sheep(0, 0)", x.sheep(0, 0), Checks.UNKNOWN);
        Checks.due("near(0)", x.near(0), Checks.UNKNOWN);
        Checks.due("as(0, 0)", x.as(0, 0), Checks.UNKNOWN);
        Checks.due("plan(NONE)", x.plan(Checks.NONE), 0);
        Checks.due("feel(6, 0)", x.feel(6, 0), 0);
        Checks.due("names(0)", x.names(0), 255);
        Checks.due("undo()", x.undo(), Checks.NOT);
        Checks.due("back(0)", x.back(0), Checks.NOT);
        Checks.due("back(1)", x.back(1), Checks.NOT);
        Checks.due("day()", x.day(), 0);
        Checks.due("morning()", x.morning(), Checks.NOT);
    }

    private static void cavesApart() {
        Checks.of("An empty cave.");
        NobodyCave x = Checks.told("man 1;ram 2;near 3;wine 4;sleep 1;hard 1;eats 0");
        x.day();
        x.keep(0);
        x.seen(0, 0, 1);
        x.write(';');
        NobodyCave y = new NobodyCave();
        for (int what = 0; what <= 14; what++) {
            countIs(y, what, what == 4 ? 12 : 0);
        }
        Checks.due("back(0) of another's", y.back(0), Checks.NOT);
        Checks.due("cave of another's text", y.cave(), Checks.NOT);
        y.give(5);
        countIs(x, 4, 4);
        countIs(x, 14, 1);
    }

    private static void manyCalls() {
        Checks.of("An object is used for at most 512 calls after it has been made");
        NobodyCave x = new NobodyCave();
        for (int call = 1; call <= 510; call += 2) {
            Checks.due("call " + call, x.give(1), 1);
            Checks.due("call " + (call + 1), x.undo(), 0);
        }
        Checks.due("call 511", x.give(12), 12);
        Checks.due("call 512", x.count(5), 12);
    }

    private static void men() {
        Checks.of("MEN are 0, 1 .. as they come, 6 at most (none at first)");
        NobodyCave x = new NobodyCave();
        for (int n = 0; n < 6; n++) {
            countIs(x, 0, n);
            Checks.due("man " + n + " is not there", x.man(n, 0), Checks.UNKNOWN);
            Checks.say(x, "man " + (20 - n));
            Checks.due("man " + n, x.man(n, 0), 20 - n);
        }
        countIs(x, 0, 6);
        Checks.due("man 0 yet", x.man(0, 0), 20);
        Checks.due("man 6", x.man(6, 0), Checks.UNKNOWN);
        Checks.faultAt(x, "man 1", 0);
        countIs(x, 0, 6);
    }

    private static void weight() {
        Checks.of("of WEIGHT (1 ..");
        NobodyCave x = Checks.told("man 1;man 20");
        Checks.due("the least", x.man(0, 0), 1);
        Checks.due("the greatest", x.man(1, 0), 20);
        Checks.faultAt("man 0", 4);
        Checks.faultAt("man 21", 4);
    }

    private static void inAtFirst() {
        Checks.of("IN (at first), OUT, or EATEN");
        NobodyCave x = Checks.told(SIX_MEN);
        for (int man = 0; man < 6; man++) {
            Checks.due("man(" + man + ", 1)", x.man(man, 1), 0);
        }
        countIs(x, 8, 63);
        countIs(x, 9, 0);
        countIs(x, 10, 0);
    }

    private static void sheep() {
        Checks.of("SHEEP are 0, 1 .. as they come, 6 at most");
        String[] kinds = {"bell", "tied", "ram", "woolly", "bell", "woolly"};
        int[] numbers = {3, 2, 1, 0, 3, 0};
        NobodyCave x = new NobodyCave();
        for (int n = 0; n < 6; n++) {
            countIs(x, 1, n);
            Checks.due("sheep " + n + " is not there", x.sheep(n, 0), Checks.UNKNOWN);
            Checks.say(x, kinds[n] + " " + (n + 1));
            Checks.due("kind of " + n, x.sheep(n, 0), numbers[n]);
            Checks.due("strong of " + n, x.sheep(n, 1), n + 1);
        }
        countIs(x, 1, 6);
        Checks.due("sheep 6", x.sheep(6, 0), Checks.UNKNOWN);
        Checks.faultAt(x, "ram 1", 0);
        countIs(x, 1, 6);
    }

    private static void strong() {
        Checks.of("STRONG (1 .. 20); GONE (not at first)");
        for (String kind : new String[] {"woolly", "ram", "tied", "bell"}) {
            NobodyCave x = Checks.told(kind + " 1;" + kind + " 20");
            Checks.due(kind + ", the least", x.sheep(0, 1), 1);
            Checks.due(kind + ", the greatest", x.sheep(1, 1), 20);
            Checks.due(kind + " is gone", x.sheep(0, 2), 0);
            countIs(x, 11, 0);
            Checks.faultAt(kind + " 0", kind.length() + 1);
            Checks.faultAt(kind + " 21", kind.length() + 1);
        }
    }

    private static void neighbours() {
        Checks.of("NEIGHBOURS are 0, 1 .., 4 at most");
        NobodyCave x = new NobodyCave();
        for (int n = 0; n < 4; n++) {
            countIs(x, 2, n);
            Checks.due("neighbour " + n + " is not there", x.near(n), Checks.UNKNOWN);
            Checks.say(x, "near " + 50 * n);
            Checks.due("neighbour " + n, x.near(n), 50 * n);
        }
        countIs(x, 2, 4);
        Checks.due("neighbour 4", x.near(4), Checks.UNKNOWN);
        Checks.faultAt(x, "near 1", 0);
        countIs(x, 2, 4);
    }

    private static void takes() {
        Checks.of("each TAKES some of NAMES 0 .. 7 for nobody (a SET, as a number 0 .. 255)");
        NobodyCave x = Checks.told("near 0;near 255;near 1;near 128");
        Checks.due("none", x.near(0), 0);
        Checks.due("all", x.near(1), 255);
        Checks.due("name 0 alone", x.came(1 | 8), 1);
        Checks.due("name 7 alone", x.came(1 | 4), 128);
        Checks.due("the others", x.came(1 | 4 | 8), 126);
        Checks.faultAt("near 256", 5);
        Checks.faultAt("near 999", 5);
    }

    private static void cups() {
        Checks.of("CUPS of wine (0 .. 50; 12 at first)");
        NobodyCave x = new NobodyCave();
        Checks.due("13 of 12", x.give(13), Checks.NOT);
        Checks.due("12 of 12", x.give(12), 12);
        NobodyCave none = Checks.told("wine 0");
        countIs(none, 4, 0);
        Checks.due("1 of 0", none.give(1), Checks.NOT);
        NobodyCave most = Checks.told("wine 50");
        countIs(most, 4, 50);
        Checks.due("50 of 50", most.give(50), 50);
        countIs(most, 4, 0);
        Checks.faultAt("wine 51", 5);
    }

    /** The stake being hard, one cup fewer does not do. */
    private static void asleepBy(String text, int cups) {
        NobodyCave x = Checks.told(text);
        x.day();
        x.day();
        x.day();
        x.day();
        if (cups > 1) {
            x.give(cups - 1);
        }
        Checks.due(text + ", one fewer", x.blind(0), Checks.NOT);
        x.give(1);
        Checks.due(text + ", just so many", x.blind(0), 0);
    }

    private static void sleep() {
        Checks.of("SLEEP (1 .. 9; 3)");
        asleepBy("wine 12", 3);
        for (int sleep = 1; sleep <= 9; sleep++) {
            asleepBy("sleep " + sleep, sleep);
        }
        Checks.faultAt("sleep 0", 6);
        Checks.faultAt("sleep 10", 6);
    }

    private static void hardBy(String text, int days) {
        NobodyCave x = Checks.told(text);
        for (int n = 1; n < days; n++) {
            x.day();
        }
        x.give(3);
        Checks.due(text + ", a day before", x.blind(0), Checks.NOT);
        x.day();
        x.give(3);
        Checks.due(text + ", on the day", x.blind(0), 0);
    }

    private static void hard() {
        Checks.of("HARD (1 .. 9; 4)");
        hardBy("wine 12", 4);
        for (int hard = 1; hard <= 9; hard++) {
            hardBy("hard " + hard, hard);
        }
        Checks.faultAt("hard 0", 5);
        Checks.faultAt("hard 10", 5);
    }

    private static void eats() {
        Checks.of("EATS (0 .. 3; 2)");
        Checks.due("at first", Checks.told(SIX_MEN).day(), 3);
        int[] eaten = {0, 1, 3, 7};
        for (int eats = 0; eats <= 3; eats++) {
            Checks.due("eats " + eats, Checks.told(SIX_MEN + ";eats " + eats).day(), eaten[eats]);
        }
        Checks.faultAt("eats 4", 5);
    }

    private static void lettersOfText() {
        Checks.of("THE TEXT is a row of letters, 160 at most");
        NobodyCave x = new NobodyCave();
        Checks.type(x, " ".repeat(155) + "man 7");
        countIs(x, 14, 160);
        Checks.due("a 161st", x.write('7'), Checks.FULL);
        countIs(x, 14, 160);
        Checks.due("fault of 160", x.fault(), Checks.NONE);
        Checks.due("cave of 160", x.cave(), 1);
        Checks.due("as before the 161st", x.man(0, 0), 7);
    }

    private static void clauses() {
        Checks.of("CLAUSES with ; between, 14 at most");
        String thirteen = "cave" + ";cave".repeat(12);
        Checks.faultAt("cave", Checks.NONE);
        Checks.faultAt(thirteen, Checks.NONE);
        Checks.faultAt(thirteen + ";eats 3", Checks.NONE);
        NobodyCave x = new NobodyCave();
        Checks.say(x, thirteen + ";wine 9");
        countIs(x, 4, 9);
        // Not even a ; can stand behind the 14th, for no clause could follow it.
        Checks.faultAt(thirteen + ";cave;cave", 69);
        Checks.faultAt("cave cave", 5);
        Checks.faultAt("man 3 man 3", 6);
        Checks.faultAt("cave;;cave", 5);
        Checks.faultAt(";cave", 0);
        Checks.faultAt("cave;", 5);
        Checks.faultAt("cave,cave", 4);
        Checks.faultAt("cave:cave", 4);
    }

    private static void wordsAsWritten() {
        Checks.of("each is one of: cave. man W. woolly S. ram S. tied S. bell S. near T. wine C. sleep N. hard N. eats N.");
        for (String clause : new String[] {"cave", "man 1", "woolly 1", "ram 1", "tied 1", "bell 1", "near 1", "wine 1",
            "sleep 1", "hard 1", "eats 1"}) {
            int end = clause.equals("cave") ? 4 : clause.length() - 2;
            Checks.faultAt(clause, Checks.NONE);
            Checks.faultAt("x" + clause.substring(1), 0);
            Checks.faultAt(clause.substring(1), 0);
            Checks.faultAt("x" + clause, 0);
            Checks.faultAt(clause.substring(0, end - 1) + "x" + clause.substring(end), 0);
            Checks.faultAt(clause.substring(0, end - 1) + clause.substring(end), 0);
            Checks.faultAt(clause.substring(0, end) + "x" + clause.substring(end), 0);
        }
        Checks.faultAt("cave 1", 5);
        Checks.faultAt("1", 0);
    }

    private static void withoutPoints() {
        Checks.of("(As written here, without points;");
        Checks.faultAt("cave.", 4);
        Checks.faultAt("man 3.", 5);
        Checks.faultAt("man 3.;man 4", 5);
        Checks.faultAt("man. 3", 3);
        Checks.faultAt(".cave", 0);
    }

    private static void caveClause() {
        Checks.of("cave: all as at first");
        NobodyCave x = Checks.told("man 3;ram 4;near 5;wine 0;sleep 9;hard 9;eats 0");
        Checks.say(x, "cave");
        for (int what = 0; what <= 14; what++) {
            countIs(x, what, what == 4 ? 12 : 0);
        }
        Checks.due("hard as at first", x.soon(0), 4);
        Checks.say(x, "wine 3");
        Checks.due("three cups do", x.soon(0), 4);
        Checks.say(x, "wine 2");
        Checks.due("two cups do not", x.soon(0), Checks.NONE);
        Checks.say(x, "man 1;man 1;man 1");
        Checks.due("eats as at first", x.day(), 3);
        Checks.say(x, "cave");
        Checks.say(x, "cave;cave");
        countIs(x, 4, 12);
    }

    private static void seventhMan() {
        Checks.of("man, woolly .., near: one more of them, a seventh man");
        Checks.faultAt(SIX_MEN, Checks.NONE);
        Checks.faultAt(SIX_MEN + ";man 7", 36);
        Checks.faultAt(SIX_MEN + ";  man 99", 38);
        Checks.faultAt(SIX_MEN + ";man", 36);
        Checks.faultAt(SIX_MEN + ";ram 7;near 7", Checks.NONE);
        Checks.faultAt(SIX_MEN + ";cave;man 7", Checks.NONE);
        Checks.faultAt("cave;" + SIX_MEN + ";man 7", 41);
        Checks.faultAt(Checks.told(SIX_MEN), "man 7", 0);
        Checks.faultAt(Checks.told(SIX_MEN), "wine 3;man 7", 7);
        Checks.faultAt(Checks.told(SIX_MEN), "cave;man 7", Checks.NONE);
        Checks.faultAt(Checks.told(SIX_MEN), "man 7;cave", 0);
    }

    private static void seventhSheep() {
        Checks.of("a seventh sheep");
        Checks.faultAt(SIX_SHEEP, Checks.NONE);
        for (String kind : new String[] {"woolly", "ram", "tied", "bell"}) {
            Checks.faultAt(SIX_SHEEP + ";" + kind + " 7", SIX_SHEEP.length() + 1);
            NobodyCave x = Checks.told(SIX_SHEEP);
            Checks.faultAt(x, kind + " 7", 0);
            Checks.faultAt(x, kind + " 99", 0);
            Checks.faultAt(x, "cave;" + kind + " 7", Checks.NONE);
        }
        Checks.faultAt(SIX_SHEEP + ";man 7;near 7", Checks.NONE);
    }

    private static void fifthNeighbour() {
        Checks.of("a fifth neighbour cannot stand there (at its word)");
        Checks.faultAt(FOUR_NEAR, Checks.NONE);
        Checks.faultAt(FOUR_NEAR + ";near 5", 28);
        Checks.faultAt(FOUR_NEAR + ";near 999", 28);
        Checks.faultAt(FOUR_NEAR + ";man 7;ram 7", Checks.NONE);
        NobodyCave x = Checks.told(FOUR_NEAR);
        Checks.faultAt(x, "near 5", 0);
        Checks.faultAt(x, "cave;near 5", Checks.NONE);
    }

    private static void smallLetters() {
        Checks.of("small letters a .. z");
        Checks.faultAt("CAVE", 0);
        Checks.faultAt("Cave", 0);
        Checks.faultAt("cavE", 0);
        Checks.faultAt("caveA", 4);
        Checks.faultAt("cave`", 4);
        Checks.faultAt("cave{", 4);
        Checks.faultAt("cavea", 0);
        Checks.faultAt("cavez", 0);
        Checks.faultAt("azcave", 0);
    }

    private static void digits() {
        Checks.of("numbers of 1 to 3 digits");
        Checks.faultAt("near", 4);
        Checks.faultAt("near 5", Checks.NONE);
        Checks.faultAt("near 55", Checks.NONE);
        Checks.faultAt("near 255", Checks.NONE);
        Checks.faultAt("near 005", Checks.NONE);
        Checks.faultAt("near 000", Checks.NONE);
        Checks.faultAt("near 0005", 5);
        Checks.faultAt("near 0000", 5);
        Checks.faultAt("near 1000", 5);
        Checks.faultAt("near /", 5);
        Checks.faultAt("near :", 5);
        Checks.faultAt("near 5/", 6);
        Checks.faultAt("near 5:", 6);
        Checks.due("by its digits", Checks.told("near 009").near(0), 9);
    }

    private static void blanks() {
        Checks.of("blanks between");
        Checks.faultAt("man    9    ;    man    8", Checks.NONE);
        Checks.faultAt("man 9;man 8", Checks.NONE);
        Checks.faultAt("man9;man8", Checks.NONE);
        Checks.faultAt("  man 9  ", Checks.NONE);
        Checks.faultAt("ma n 9", 0);
        Checks.faultAt("man 1 9", 6);
        Checks.faultAt("man\t9", 3);
        Checks.faultAt("man" + (char) 31 + "9", 3);
        Checks.faultAt("man!9", 3);
    }

    private static void earlierTexts() {
        Checks.of("what earlier texts told stays");
        NobodyCave x = new NobodyCave();
        Checks.say(x, "man 3;ram 4;near 5");
        Checks.say(x, "wine 6;sleep 1;hard 1");
        Checks.say(x, "eats 0");
        Checks.say(x, "man 7");
        Checks.due("man 0", x.man(0, 0), 3);
        Checks.due("man 1", x.man(1, 0), 7);
        Checks.due("sheep 0", x.sheep(0, 1), 4);
        Checks.due("near 0", x.near(0), 5);
        countIs(x, 4, 6);
        Checks.due("eats, a day", x.day(), 0);
        Checks.due("sleep, a cup", x.give(1), 1);
        Checks.due("hard, a day", x.blind(0), 0);
    }

    private static void firstToken() {
        Checks.of("A FAULT is at the first TOKEN (a row of small letters, a row of digits, any other letter)");
        Checks.faultAt("cow 99;;7", 0);
        Checks.faultAt("man cow", 4);
        Checks.faultAt("man 3 cow 99", 6);
        Checks.faultAt("man 3;  cow 99", 8);
        Checks.faultAt("man 3cow", 5);
        Checks.faultAt("cave99", 4);
        Checks.faultAt("99cave", 0);
        Checks.faultAt("man ;;", 4);
        Checks.faultAt("man --3", 4);
        Checks.faultAt("cave" + (char) 0, 4);
        Checks.faultAt("cave" + (char) 255, 4);
    }

    private static void outOfBounds() {
        Checks.of("(a number out of its bounds, of more digits, also)");
        Checks.faultAt("man 3;man 0;man 21", 10);
        Checks.faultAt("man 3;man   21 x", 12);
        Checks.faultAt("wine 51;cow", 5);
        Checks.faultAt("wine 0012", 5);
        Checks.faultAt("wine 2147483648", 5);
        Checks.faultAt("wine 4294967300", 5);
        Checks.faultAt("wine 18446744073709551619", 5);
    }

    private static void endTooSoon() {
        Checks.of("or at the end, if it comes too soon");
        Checks.faultAt("", 0);
        Checks.faultAt(" ", 1);
        Checks.faultAt(" ".repeat(160), 160);
        Checks.faultAt("man", 3);
        Checks.faultAt("man  ", 5);
        Checks.faultAt("cave;", 5);
        Checks.faultAt("cave; ", 6);
        Checks.faultAt("cave" + " ".repeat(155) + ";", 160);
        Checks.faultAt("cave;" + " ".repeat(152) + "man", 160);
    }

    private static void inTheirOrder() {
        Checks.of("CLAUSES are done in their order.");
        NobodyCave x = new NobodyCave();
        Checks.say(x, "wine 1;wine 2;wine 3");
        countIs(x, 4, 3);
        Checks.say(x, "wine 5;cave");
        countIs(x, 4, 12);
        Checks.say(x, "cave;wine 5");
        countIs(x, 4, 5);
        Checks.say(x, SIX_MEN + ";cave;man 9;man 8;man 7");
        countIs(x, 0, 3);
        Checks.due("man 0", x.man(0, 0), 9);
        Checks.due("man 2", x.man(2, 0), 7);
    }

    /** A cave in which much was done: one out, one eaten, one hid, days and cups gone. */
    private static NobodyCave lived() {
        NobodyCave x = easy("man 1;man 9;man 2;ram 1;ram 2;ram 3;wine 8");
        x.day();
        x.day();
        x.give(5);
        x.blind(0);
        x.hide(0, 0);
        x.hide(1, 1);
        x.morning();
        x.hide(2, 2);
        x.keep(0);
        x.keep(1);
        x.seen(2, 2, 1);
        return x;
    }

    private static void behindTheClauses() {
        Checks.of("Behind them it is DAY 0, CUPS are as told, nothing is drunk, THE STAKE is soft (0), he sees, "
                + "all MEN are IN, nobody hides, no SHEEP is GONE");
        NobodyCave x = lived();
        int[] before = {3, 3, 0, 2, 3, 5, 2, 1, 4, 1, 2, 1, 1, 8, 0};
        int[] behind = {3, 3, 0, 0, 8, 0, 0, 0, 7, 0, 0, 0, 0, 0, 0};
        for (int what = 0; what <= 14; what++) {
            countIs(x, what, before[what]);
        }
        Checks.due("he hides before", x.man(2, 2), 2);
        Checks.say(x, "sleep 1");
        for (int what = 0; what <= 14; what++) {
            countIs(x, what, behind[what]);
        }
        for (int i = 0; i < 3; i++) {
            Checks.due("man(" + i + ", 1)", x.man(i, 1), 0);
            Checks.due("man(" + i + ", 2)", x.man(i, 2), Checks.NONE);
            Checks.due("sheep(" + i + ", 2)", x.sheep(i, 2), 0);
            Checks.due("sheep(" + i + ", 3)", x.sheep(i, 3), Checks.NONE);
        }
    }

    private static void nothingSeenKeptUndone() {
        Checks.of("nothing is SEEN, nothing is kept or can be undone");
        NobodyCave x = lived();
        Checks.due("seen before", x.strong(2, 0), 2);
        Checks.say(x, "sleep 1");
        Checks.due("nothing is seen", x.strong(2, 0), 1);
        Checks.due("forget()", x.forget(), 0);
        Checks.due("back(0)", x.back(0), Checks.NOT);
        Checks.due("back(1)", x.back(1), Checks.NOT);
        Checks.due("undo()", x.undo(), Checks.NOT);
        Checks.due("a deed", x.day(), 0);
        Checks.due("undo() of it", x.undo(), 0);
        Checks.due("undo() of none", x.undo(), Checks.NOT);
    }

    private static void write() {
        Checks.of("A letter (its number, 0 .. 255) more of THE TEXT: how many it has. OUTSIDE; FULL.");
        NobodyCave x = new NobodyCave();
        for (int letter = 0; letter <= 255; letter++) {
            if (letter == 160) {
                Checks.due("a 161st", x.write(letter), Checks.FULL);
                Checks.due("outside, full", x.write(256), Checks.OUTSIDE);
                Checks.due("too small, full", x.write(-1), Checks.OUTSIDE);
                x.erase();
            }
            Checks.due("write(" + letter + ")", x.write(letter), letter % 160 + 1);
        }
        for (int letter : new int[] {-1, 256, Integer.MIN_VALUE, Integer.MAX_VALUE, 256 + 'a', 65536 + 'a', 'a' - 256}) {
            Checks.due("write(" + letter + ")", x.write(letter), Checks.OUTSIDE);
        }
        countIs(x, 14, 96);
    }

    private static void erase() {
        Checks.of("THE TEXT is empty: how many letters it had.");
        NobodyCave x = new NobodyCave();
        Checks.due("of none", x.erase(), 0);
        x.write('x');
        Checks.due("of one", x.erase(), 1);
        countIs(x, 14, 0);
        for (int n = 0; n < 170; n++) {
            x.write('x');
        }
        Checks.due("of a full one", x.erase(), 160);
        Checks.due("of none again", x.erase(), 0);
        Checks.due("write behind it", x.write('x'), 1);
        x.erase();
        Checks.say(x, "cave");
        Checks.due("behind a text that was done", x.erase(), 0);
    }

    private static void fault() {
        Checks.of("The place of the FAULT (the letter with which the TOKEN begins, or the length); NONE.");
        Checks.faultAt("cave", Checks.NONE);
        Checks.faultAt("caves", 0);
        Checks.faultAt("      caves", 6);
        Checks.faultAt("man 9999", 4);
        Checks.faultAt("man     ", 8);
        Checks.faultAt("cave" + " ".repeat(155) + "!", 159);
        NobodyCave x = new NobodyCave();
        Checks.type(x, "man 3");
        Checks.due("fault()", x.fault(), Checks.NONE);
        countIs(x, 0, 0);
        countIs(x, 14, 5);
    }

    private static void cave() {
        Checks.of("THE TEXT's CLAUSES are done, and it is empty then: how many there were. NOT: it has a FAULT.");
        for (int clauses = 1; clauses <= 14; clauses++) {
            NobodyCave x = new NobodyCave();
            Checks.type(x, "wine 9" + ";wine 9".repeat(clauses - 1));
            Checks.due("cave() of " + clauses, x.cave(), clauses);
            countIs(x, 14, 0);
            Checks.due("cave() of an empty one", x.cave(), Checks.NOT);
        }
        NobodyCave x = lived();
        Checks.type(x, "cave;man 3;man 0");
        Checks.due("cave()", x.cave(), Checks.NOT);
        countIs(x, 14, 16);
        countIs(x, 0, 3);
        countIs(x, 3, 2);
        countIs(x, 12, 1);
        countIs(x, 13, 8);
        Checks.due("kept yet", x.back(1), 2);
        Checks.due("the text is there yet", x.fault(), 15);
    }
}
