/** Promises 1 to 9: a new object, the text, and what is told. */
public final class ToldTest {
    private static final int[] EDGES = {Integer.MIN_VALUE, -6, -5, -4, -3, -2, -1, Integer.MAX_VALUE};

    public static void main(String[] args) {
        newObject();
        write();
        erase();
        faultInWords();
        faultInEachWord();
        faultInFullTexts();
        faultBehindOlderTexts();
        faultInNumbers();
        faultByRoom();
        faultByClauses();
        cave();
        caveBeginsAnew();
        man();
        sheep();
        near();
        as();
        Checks.end("ToldTest");
    }

    /** Promise 1. */
    private static void newObject() {
        NobodyCave x = new NobodyCave();
        int[] want = {0, 0, 0, 0, 12, 0, 0, 0, 0, 0, 0, 0, 0, 0, 0};
        for (int what = 0; what < want.length; what++) {
            Checks.due("new: count(" + what + ")", x.count(what), want[what]);
        }
        Checks.due("new: undo", x.undo(), Checks.NOT);
        Checks.due("new: back(0)", x.back(0), Checks.NOT);
        Checks.due("new: back(1)", x.back(1), Checks.NOT);
        Checks.due("new: hard", x.soon(0), 4);
        Checks.due("new: sleep, too few", x.give(2), 2);
        for (int i = 0; i < 4; i++) {
            x.day();
        }
        x.give(2);
        Checks.due("new: not asleep by 2", x.blind(0), Checks.NOT);
        x.give(1);
        Checks.due("new: asleep by 3", x.blind(0), 0);
        NobodyCave y = Checks.told("man 1;man 1;man 1");
        Checks.due("new: eats", y.day(), 3);
    }

    /** Promise 2. */
    private static void write() {
        for (int edge : EDGES) {
            NobodyCave y = new NobodyCave();
            Checks.refused("write(" + edge + ")", y, Checks.state(y), y.write(edge), Checks.OUTSIDE);
        }
        NobodyCave x = new NobodyCave();
        Checks.due("write(256)", x.write(256), Checks.OUTSIDE);
        Checks.due("write(0)", x.write(0), 1);
        Checks.due("write(255)", x.write(255), 2);
        for (int n = 3; n <= 160; n++) {
            Checks.due("write " + n, x.write('a'), n);
        }
        Checks.due("write of a 161st", x.write('a'), Checks.FULL);
        Checks.due("letters", x.count(14), 160);
        Checks.due("write outside when full", x.write(256), Checks.OUTSIDE);
    }

    /** Promise 3. */
    private static void erase() {
        NobodyCave x = new NobodyCave();
        Checks.due("erase of nothing", x.erase(), 0);
        Checks.type(x, "man 3");
        Checks.due("erase", x.erase(), 5);
        Checks.due("letters behind erase", x.count(14), 0);
        Checks.due("fault behind erase", x.fault(), 0);
        Checks.due("erase again", x.erase(), 0);
        Checks.tell(x, "ram 3", 1);
        Checks.due("erase leaves what is told", x.count(1), 1);
    }

    /** Promise 4: words, blanks and other letters. */
    private static void faultInWords() {
        for (String text : new String[] {"cave", "man 1", "woolly 1", "ram 1", "tied 1", "bell 1", "near 1", "wine 1",
            "sleep 1", "hard 1", "eats 1", "  man   9  ", "man9", "man 1;man 2", "man 1 ; man 2", "man1;cave;ram20",
            " cave ", "cave;cave"}) {
            Checks.faultAt(text, Checks.NONE);
        }
        Checks.faultAt("", 0);
        Checks.faultAt("   ", 3);
        Checks.faultAt(";", 0);
        Checks.faultAt("7", 0);
        Checks.faultAt("men 3", 0);
        Checks.faultAt("ma 3", 0);
        Checks.faultAt("mann 3", 0);
        Checks.faultAt("Man 3", 0);
        Checks.faultAt("mAn 3", 0);
        Checks.faultAt("man", 3);
        Checks.faultAt("man ", 4);
        Checks.faultAt("man ;", 4);
        Checks.faultAt("man man", 4);
        Checks.faultAt("man -3", 4);
        Checks.faultAt("man 3.", 5);
        Checks.faultAt("man 3a", 5);
        Checks.faultAt("man 3 4", 6);
        Checks.faultAt("man 3 man 4", 6);
        Checks.faultAt("man 3;", 6);
        Checks.faultAt("man 3; ", 7);
        Checks.faultAt("man 3;;man 4", 6);
        Checks.faultAt("man 3;  bull 4", 8);
        Checks.faultAt("man\t3", 3);
        Checks.faultAt("man\n3", 3);
        Checks.faultAt("man" + (char) 160 + "3", 3);
        Checks.faultAt("man 3" + (char) 0, 5);
        Checks.faultAt((char) 225 + "man 3", 0);
        Checks.faultAt("man" + (char) 255, 3);
        Checks.faultAt("cave 3", 5);
        Checks.faultAt("cave3", 4);
        Checks.faultAt("cavecave", 0);
        Checks.faultAt("cave cave", 5);
        Checks.faultAt("`", 0);
        Checks.faultAt("{", 0);
        Checks.faultAt("man /", 4);
        Checks.faultAt("man :", 4);
    }

    /** Promise 4: each letter of each word counts, and so does one more. */
    private static void faultInEachWord() {
        for (String word : new String[] {"cave", "man", "woolly", "ram", "tied", "bell", "near", "wine", "sleep", "hard",
            "eats"}) {
            String behind = word.equals("cave") ? "" : " 1";
            for (int i = 0; i < word.length(); i++) {
                Checks.faultAt(word.substring(0, i) + "z" + word.substring(i + 1) + behind, 0);
                Checks.faultAt(word.substring(0, i) + word.substring(i + 1) + behind, 0);
            }
            Checks.faultAt(word + "a" + behind, 0);
            Checks.faultAt(word + "z" + behind, 0);
            Checks.faultAt("z" + word + behind, 0);
        }
    }

    /** Promise 4: texts of 160 letters, which end with any sort of token. */
    private static void faultInFullTexts() {
        String blanks = " ".repeat(160);
        Checks.faultAt(blanks, 160);
        Checks.faultAt("cave" + blanks.substring(4), Checks.NONE);
        Checks.faultAt(blanks.substring(4) + "cave", Checks.NONE);
        Checks.faultAt(blanks.substring(3) + "man", 160);
        Checks.faultAt("man" + blanks.substring(3), 160);
        Checks.faultAt(blanks.substring(5) + "man 9", Checks.NONE);
        Checks.faultAt(blanks.substring(5) + "cave;", 160);
        Checks.faultAt("cave;" + blanks.substring(5), 160);
        Checks.faultAt(blanks.substring(5) + "cave.", 159);
        Checks.faultAt("a".repeat(160), 0);
        Checks.faultAt("man " + "0".repeat(156), 4);
        Checks.faultAt(";".repeat(160), 0);
    }

    /** Promise 4: letters of a text that is no more do not count; to ask twice is to be answered the same. */
    private static void faultBehindOlderTexts() {
        for (String older : new String[] {"man 12;man 13", "man          ", "mannnnnnnn", "man 11111", "cave;cave"}) {
            NobodyCave y = new NobodyCave();
            Checks.type(y, older);
            y.erase();
            Checks.faultAt(y, "man", 3);
            Checks.faultAt(y, "man 1", Checks.NONE);
        }
        NobodyCave x = new NobodyCave();
        Checks.type(x, "man 11111");
        x.erase();
        Checks.tell(x, "man 1", 1);
        Checks.due("the number without older digits", x.man(0, 0), 1);
        Checks.type(x, "man 1;man 1;man 1;man 1;man 1");
        for (int n = 0; n < 3; n++) {
            Checks.due("fault asked " + n, x.fault(), Checks.NONE);
        }
        Checks.due("cave", x.cave(), 5);
        Checks.due("men", x.count(0), 6);
        Checks.type(x, "near 1;near 1;man 1");
        for (int n = 0; n < 3; n++) {
            Checks.due("cave asked " + n, x.cave(), Checks.NOT);
        }
        x.erase();
        Checks.type(x, "near 7;near 8;near 9;near 10");
        Checks.due("cave of four", x.cave(), 4);
        Checks.due("the first of them", x.near(0), 7);
        Checks.due("how many", x.count(2), 4);
    }

    /** Promise 4: the bounds of each number, and its digits. */
    private static void faultInNumbers() {
        String[] words = {"man", "woolly", "ram", "tied", "bell", "near", "wine", "sleep", "hard", "eats"};
        int[] least = {1, 1, 1, 1, 1, 0, 0, 1, 1, 0};
        int[] most = {20, 20, 20, 20, 20, 255, 50, 9, 9, 3};
        for (int i = 0; i < words.length; i++) {
            int place = words[i].length() + 1;
            for (int number = 0; number <= 999; number++) {
                boolean stands = number >= least[i] && number <= most[i];
                if (number < 60 || number > 250 && number < 260 || number == 999) {
                    Checks.faultAt(words[i] + " " + number, stands ? Checks.NONE : place);
                }
            }
            Checks.faultAt(words[i] + " 00" + least[i], Checks.NONE);
            Checks.faultAt(words[i] + " 01", Checks.NONE);
            Checks.faultAt(words[i] + " 0001", place);
            Checks.faultAt(words[i] + " 4294967297", place);
            Checks.faultAt(words[i] + " 1;" + words[i] + " 1;" + words[i] + " 0001", 2 * place + 4 + place);
        }
    }

    /** Promise 4: a seventh man, a seventh sheep, a fifth neighbour. */
    private static void faultByRoom() {
        String six = "man 1;man 2;man 3;man 4;man 5;man 6";
        Checks.faultAt(six, Checks.NONE);
        Checks.faultAt(six + ";man 7", 36);
        Checks.faultAt(six + ";man", 36);
        Checks.faultAt(six + ";cave;man 7", Checks.NONE);
        Checks.faultAt(six + ";cave;" + six + ";man 1", 77);
        String flock = "woolly 1;ram 1;tied 1;bell 1;woolly 1;ram 1";
        Checks.faultAt(flock, Checks.NONE);
        for (String kind : new String[] {"woolly", "ram", "tied", "bell"}) {
            Checks.faultAt(flock + "; " + kind + " 1", flock.length() + 2);
        }
        String four = "near 1;near 1;near 1;near 1";
        Checks.faultAt(four, Checks.NONE);
        Checks.faultAt(four + ";near 1", 28);
        Checks.faultAt(four + ";cave;near 1", Checks.NONE);

        NobodyCave x = Checks.told(six);
        Checks.faultAt(x, "man 1", 0);
        Checks.faultAt(x, "ram 1;man 1", 6);
        Checks.faultAt(x, "cave;man 1", Checks.NONE);
        Checks.faultAt(x, "wine 3;ram 2", Checks.NONE);
        Checks.due("fault() tells nothing", x.count(1), 0);
        Checks.due("fault() tells nothing, cups", x.count(4), 12);
    }

    /** Promise 4: fourteen clauses, and not one more. */
    private static void faultByClauses() {
        StringBuilder text = new StringBuilder("cave");
        for (int n = 2; n <= 14; n++) {
            text.append(";cave");
            Checks.faultAt(text.toString(), Checks.NONE);
        }
        Checks.faultAt(text + ";", 69);
        Checks.faultAt(text + " ;cave", 70);
        Checks.faultAt(text + " cave", 70);
    }

    /** Promise 5. */
    private static void cave() {
        NobodyCave x = new NobodyCave();
        Checks.due("cave of nothing", x.cave(), Checks.NOT);
        Checks.tell(x, "man 9;ram 3;near 7;wine 0;sleep 1;hard 1;eats 3", 7);
        Checks.due("men", x.count(0), 1);
        Checks.due("sheep", x.count(1), 1);
        Checks.due("neighbours", x.count(2), 1);
        Checks.due("cups", x.count(4), 0);
        Checks.tell(x, "man 20;man 2;bell 4;near 9", 4);
        Checks.due("men stay", x.man(0, 0), 9);
        Checks.due("men come behind", x.man(2, 0), 2);
        Checks.due("sheep stay", x.sheep(0, 1), 3);
        Checks.due("sheep come behind", x.sheep(1, 1), 4);
        Checks.due("neighbours stay", x.near(0), 7);
        Checks.due("wine stays", x.count(4), 0);
        Checks.due("hard stays, wine too", x.soon(0), Checks.NONE);
        Checks.due("eats stays", x.day(), 7);
        Checks.tell(x, "wine 5;wine 6", 2);
        Checks.due("the later wine", x.count(4), 6);
        Checks.due("sleep, hard stay", x.soon(0), 1);
        Checks.due("all in again", x.count(8), 7);
        Checks.tell(x, "man 5;cave;man 7;man 8", 4);
        Checks.due("men behind cave", x.count(0), 2);
        Checks.due("first man behind cave", x.man(0, 0), 7);
        Checks.due("no sheep behind cave", x.count(1), 0);
        Checks.due("no neighbours behind cave", x.count(2), 0);
        Checks.due("wine as at first", x.count(4), 12);
        Checks.due("hard as at first", x.soon(0), 4);
        Checks.due("eats as at first", x.day(), 3);
        x.day();
        x.day();
        x.day();
        x.give(2);
        Checks.due("sleep as at first: 2 do not do", x.blind(0), Checks.NOT);
        x.give(1);
        Checks.due("sleep as at first", x.blind(0), 0);
    }

    /** Promise 5: what it is like behind the clauses. */
    private static void caveBeginsAnew() {
        NobodyCave x = Checks.told("man 1;man 2;man 3;man 9;ram 9;ram 1;near 0;wine 9;sleep 2;hard 1;eats 1");
        x.day();
        x.give(4);
        x.hide(2, 0);
        x.hide(3, 1);
        x.blind(0);
        x.morning();
        x.keep(0);
        x.keep(1);
        x.seen(0, 0, 1);
        x.day();
        Checks.due("out", x.count(9), 4);
        Checks.due("eaten", x.count(10), 11);
        Checks.due("gone", x.count(11), 1);
        Checks.tell(x, "man 4", 1);
        x.give(2);
        Checks.tell(x, "wine 9", 1);
        int[] want = {5, 2, 1, 0, 9, 0, 0, 0, 31, 0, 0, 0, 0, 0, 0};
        for (int what = 0; what < want.length; what++) {
            Checks.due("anew: count(" + what + ")", x.count(what), want[what]);
        }
        Checks.due("anew: back(0)", x.back(0), Checks.NOT);
        Checks.due("anew: back(1)", x.back(1), Checks.NOT);
        Checks.due("anew: undo", x.undo(), Checks.NOT);
        Checks.due("anew: nothing seen", x.strong(0, 0), 1);
        Checks.due("anew: hides", x.hide(1, 0), Checks.NONE);
        Checks.tell(x, "wine 3", 1);
        Checks.due("anew: nobody hides", x.man(1, 2), Checks.NONE);
        Checks.due("anew: nobody under it", x.sheep(0, 3), Checks.NONE);
        x.hide(1, 0);
        x.keep(0);
        Checks.faultAt(x, "man 3;", 6);
        Checks.due("a refused text leaves who hides", x.man(1, 2), 0);
        Checks.due("a refused text leaves what is kept", x.back(0), 0);
    }

    /** Promise 6. */
    private static void man() {
        NobodyCave x = Checks.told("man 4;man 20;man 1;ram 1;bell 20;hard 1;sleep 1;eats 1;near 255");
        Checks.due("weight 0", x.man(0, 0), 4);
        Checks.due("weight 1", x.man(1, 0), 20);
        Checks.due("weight 2", x.man(2, 0), 1);
        x.hide(2, 0);
        x.hide(1, 1);
        Checks.due("hides under 1", x.man(1, 2), 1);
        Checks.due("hides under 0", x.man(2, 2), 0);
        Checks.due("hides under none", x.man(0, 2), Checks.NONE);
        Checks.due("in", x.man(0, 1), 0);
        x.day();
        Checks.due("eaten by him", x.man(0, 1), 2);
        x.give(1);
        x.blind(0);
        x.morning();
        Checks.due("eaten in the morning", x.man(1, 1), 2);
        Checks.due("out", x.man(2, 1), 1);
        Checks.due("hides no more", x.man(2, 2), Checks.NONE);
        for (int edge : EDGES) {
            Checks.due("man(" + edge + ", 0)", x.man(edge, 0), Checks.UNKNOWN);
            Checks.due("man(" + edge + ", 9)", x.man(edge, 9), Checks.UNKNOWN);
            Checks.due("man(0, " + edge + ")", x.man(0, edge), Checks.OUTSIDE);
        }
        Checks.due("man(3, 0)", x.man(3, 0), Checks.UNKNOWN);
        Checks.due("man(0, 3)", x.man(0, 3), Checks.OUTSIDE);
    }

    /** Promise 7. */
    private static void sheep() {
        NobodyCave x = Checks.told("man 1;man 20;woolly 20;ram 1;tied 7;bell 9;hard 1;sleep 1;eats 0");
        int[] strong = {20, 1, 7, 9};
        for (int i = 0; i < 4; i++) {
            Checks.due("kind " + i, x.sheep(i, 0), i);
            Checks.due("strong " + i, x.sheep(i, 1), strong[i]);
            Checks.due("gone " + i, x.sheep(i, 2), 0);
            Checks.due("who is under " + i, x.sheep(i, 3), Checks.NONE);
        }
        x.hide(0, 2);
        x.hide(1, 3);
        Checks.due("under 2", x.sheep(2, 3), 0);
        Checks.due("under 3", x.sheep(3, 3), 1);
        x.day();
        x.give(1);
        x.blind(0);
        x.morning();
        Checks.due("gone with him", x.sheep(2, 2), 1);
        Checks.due("not gone: did not bear him", x.sheep(3, 2), 0);
        Checks.due("nobody under it", x.sheep(2, 3), Checks.NONE);
        for (int edge : EDGES) {
            Checks.due("sheep(" + edge + ", 0)", x.sheep(edge, 0), Checks.UNKNOWN);
            Checks.due("sheep(" + edge + ", 9)", x.sheep(edge, 9), Checks.UNKNOWN);
            Checks.due("sheep(0, " + edge + ")", x.sheep(0, edge), Checks.OUTSIDE);
        }
        Checks.due("sheep(4, 0)", x.sheep(4, 0), Checks.UNKNOWN);
        Checks.due("sheep(0, 4)", x.sheep(0, 4), Checks.OUTSIDE);
    }

    /** Promise 8. */
    private static void near() {
        NobodyCave x = Checks.told("near 0;near 255;near 1;near 128");
        int[] want = {0, 255, 1, 128};
        for (int i = 0; i < 4; i++) {
            Checks.due("near(" + i + ")", x.near(i), want[i]);
        }
        Checks.due("near(4)", x.near(4), Checks.UNKNOWN);
        for (int edge : EDGES) {
            Checks.due("near(" + edge + ")", x.near(edge), Checks.UNKNOWN);
        }
        Checks.due("near(1) of one", Checks.told("near 5").near(1), Checks.UNKNOWN);
    }

    /** Promise 9. */
    private static void as() {
        boolean[][] isOne = {
            {true, true, false, false, false},
            {true, true, true, false, false},
            {true, true, false, true, false},
            {true, false, false, false, true}};
        for (int strong = 1; strong <= 20; strong++) {
            NobodyCave x = Checks.told("woolly " + strong + ";ram " + strong + ";tied " + strong + ";bell " + strong);
            int[] bears = {strong, strong + strong / 2, 2 * strong, strong < 3 ? 0 : strong - 3};
            for (int sheep = 0; sheep < 4; sheep++) {
                for (int kind = 0; kind <= 4; kind++) {
                    Checks.due("as(" + sheep + ", " + kind + ") of " + strong, x.as(sheep, kind),
                            isOne[sheep][kind] ? bears[sheep] : Checks.NOT);
                }
                Checks.due("as kind 5", x.as(sheep, 5), Checks.OUTSIDE);
            }
        }
        NobodyCave x = Checks.told("ram 3");
        for (int edge : EDGES) {
            Checks.due("as(" + edge + ", 0)", x.as(edge, 0), Checks.UNKNOWN);
            Checks.due("as(" + edge + ", 9)", x.as(edge, 9), Checks.UNKNOWN);
            Checks.due("as(0, " + edge + ")", x.as(0, edge), Checks.OUTSIDE);
        }
        Checks.due("as(1, 0)", x.as(1, 0), Checks.UNKNOWN);
    }
}
