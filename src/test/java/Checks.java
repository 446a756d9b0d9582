/** What the tests share: a count of wrong answers, and texts written letter by letter. */
final class Checks {
    static final int NONE = NobodyCave.NONE, UNKNOWN = NobodyCave.UNKNOWN, OUTSIDE = NobodyCave.OUTSIDE,
            NOT = NobodyCave.NOT, FULL = NobodyCave.FULL;

    private static int made = 0;
    private static int wrong = 0;
    private static int sentences = 0;
    private static int madeBefore = 0;
    private static String sentence = "";

    private Checks() {
    }

    /** Names the sentence of the document that the checks from here on are about. */
    static void of(String words) {
        closeSentence();
        sentence = "\"" + words + "\": ";
        sentences++;
        madeBefore = made;
    }

    private static void closeSentence() {
        if (!sentence.isEmpty() && made == madeBefore) {
            wrong++;
            System.out.println(sentence + "has no check");
        }
    }

    static void due(String what, long got, long want) {
        made++;
        if (got != want) {
            wrong++;
            System.out.println(sentence + what + " answered " + got + ", due is " + want);
        }
    }

    /** Rows of letters that tell all that was asked must be alike. */
    static void alike(String what, String got, String want) {
        made++;
        if (!got.equals(want)) {
            wrong++;
            System.out.println(sentence + what + " left " + got + ", due is " + want);
        }
    }

    static void type(NobodyCave x, String text) {
        for (int i = 0; i < text.length(); i++) {
            int before = x.count(14);
            due("write in '" + text + "'", x.write(text.charAt(i)), before + 1);
        }
    }

    static void tell(NobodyCave x, String text, int clauses) {
        type(x, text);
        due("fault of '" + text + "'", x.fault(), NONE);
        due("cave of '" + text + "'", x.cave(), clauses);
        due("letters behind cave", x.count(14), 0);
    }

    /** Says a text without a look at what write() answers, where the calls of one object must stay few. */
    static void say(NobodyCave x, String text) {
        for (int i = 0; i < text.length(); i++) {
            x.write(text.charAt(i));
        }
        due("cave of '" + text + "'", x.cave(), text.split(";").length);
    }

    /** A cave told by one text. */
    static NobodyCave told(String text) {
        NobodyCave x = new NobodyCave();
        tell(x, text, text.split(";").length);
        return x;
    }

    /** The fault of a text in a new cave: fault() tells its place, and cave() refuses it. */
    static void faultAt(String text, int place) {
        faultAt(new NobodyCave(), text, place);
    }

    static void faultAt(NobodyCave x, String text, int place) {
        type(x, text);
        due("fault of '" + text + "'", x.fault(), place);
        if (place != NONE) {
            String before = state(x);
            due("cave of '" + text + "'", x.cave(), NOT);
            same("cave of '" + text + "'", x, before);
        }
        due("erase of '" + text + "'", x.erase(), text.length());
    }

    /** All that can be asked without changing anything. */
    static String state(NobodyCave x) {
        StringBuilder all = new StringBuilder();
        for (int what = 0; what <= 14; what++) {
            all.append(x.count(what)).append(' ');
        }
        for (int i = 0; i < 6; i++) {
            for (int what = 0; what <= 3; what++) {
                all.append(x.man(i, what)).append(' ').append(x.sheep(i, what)).append(' ');
            }
            all.append(x.strong(i, 0)).append(' ').append(x.strong(i, 1)).append(' ').append(x.near(i)).append('/');
        }
        return all.append(x.fault()).append(' ').append(x.soon(0)).append(' ').append(x.soon(1)).toString();
    }

    static void same(String what, NobodyCave x, String before) {
        alike(what, state(x), before);
    }

    /** A call that is refused changes nothing: the state from before it must be handed in. */
    static void refused(String what, NobodyCave x, String before, int got, int want) {
        due(what, got, want);
        same(what, x, before);
    }

    static void end(String name) {
        closeSentence();
        String of = sentences == 0 ? "" : " of " + sentences + " sentences";
        System.out.println(name + ": " + made + " checks" + of + ", " + wrong + " wrong");
        if (wrong != 0) {
            System.exit(1);
        }
    }
}
