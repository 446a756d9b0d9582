/** Promises 18 to 22: what is foretold. */
public final class ForetoldTest {
    private static final int[] EDGES = {Integer.MIN_VALUE, -6, -5, -4, -3, -2, Integer.MAX_VALUE};

    public static void main(String[] args) {
        soon();
        soonByCups();
        plan();
        planOfThoseWhoAreThere();
        feel();
        names();
        came();
        Checks.end("ForetoldTest");
    }

    /** Promise 18: by the stake. */
    private static void soon() {
        for (int hard = 1; hard <= 9; hard++) {
            for (int eats = 0; eats <= 3; eats++) {
                NobodyCave x = Checks.told("man 1;man 1;man 1;man 1;near 0;hard " + hard + ";eats " + eats);
                for (int day = 0; day <= 10; day++) {
                    int days = Math.max(0, hard - day);
                    int in = Integer.bitCount(x.count(8));
                    Checks.due("soon, hard " + hard + ", day " + day, x.soon(0), days);
                    Checks.due("lost, hard " + hard + ", eats " + eats, x.soon(1), Math.min(in, days * eats));
                    x.day();
                }
            }
        }
        NobodyCave x = new NobodyCave();
        for (int edge : EDGES) {
            Checks.due("soon(" + edge + ")", x.soon(edge), Checks.OUTSIDE);
        }
        Checks.due("soon(-1)", x.soon(-1), Checks.OUTSIDE);
        Checks.due("soon(2)", x.soon(2), Checks.OUTSIDE);
        String before = Checks.state(x);
        x.soon(0);
        Checks.same("soon", x, before);
    }

    /** Promise 18: by the cups. */
    private static void soonByCups() {
        NobodyCave x = Checks.told("man 1;wine 4;sleep 5;hard 1");
        Checks.due("too few cups", x.soon(0), Checks.NONE);
        Checks.due("too few cups: lost", x.soon(1), Checks.NONE);
        x.day();
        Checks.due("too few cups now", x.soon(0), Checks.NONE);
        NobodyCave y = Checks.told("man 1;man 1;man 1;wine 5;sleep 5;hard 2;eats 1");
        Checks.due("just so many", y.soon(0), 2);
        y.give(1);
        Checks.due("what is drunk now does not do then", y.soon(0), Checks.NONE);
        y.undo();
        y.day();
        y.day();
        y.give(3);
        Checks.due("what is drunk now does now", y.soon(0), 0);
        Checks.due("nobody is lost", y.soon(1), 0);
        y.give(2);
        Checks.due("asleep", y.soon(0), 0);
        y.blind(0);
        Checks.due("blind", y.soon(0), Checks.NONE);
        Checks.due("blind: lost", y.soon(1), Checks.NONE);
        Checks.due("blind: outside", y.soon(2), Checks.OUTSIDE);
    }

    private static void planIs(String text, int... want) {
        NobodyCave x = Checks.told(text);
        int many = 0;
        for (int man = 0; man < want.length; man++) {
            Checks.due("plan(" + man + ") of " + text, x.plan(man), want[man]);
            many += want[man] == Checks.NONE ? 0 : 1;
        }
        Checks.due("plan of " + text, x.plan(Checks.NONE), many);
    }

    /** Promise 19. */
    private static void plan() {
        int none = Checks.NONE;
        planIs("ram 3");
        planIs("man 3", none);
        planIs("man 3;woolly 2", none);
        planIs("man 3;woolly 3", 0);
        planIs("man 3;man 3;woolly 3", 0, none);
        planIs("man 4;man 3;woolly 3", none, 0);
        planIs("man 2;man 3;woolly 3;woolly 2", 1, 0);
        planIs("man 1;man 1;woolly 9;woolly 9", 0, 1);
        planIs("man 1;man 9;woolly 9;woolly 9", 0, 1);
        planIs("man 1;man 9;woolly 1;woolly 9", 0, 1);
        planIs("man 1;man 9;woolly 9;woolly 1", 1, 0);
        planIs("man 15;man 14;ram 10;tied 7", 0, 1);
        planIs("man 14;man 15;tied 7;ram 10", 0, 1);
        planIs("man 14;man 15;ram 10;tied 7", 1, 0);
        planIs("man 1;man 1;bell 3;bell 4", 1, none);
        planIs("man 20;man 20;man 20;man 1;man 1;man 1;tied 10;tied 9;ram 13;ram 14;bell 4;bell 1", 0, 3, none, 1, 2, 4);
        planIs("man 1;man 2;man 3;man 4;man 5;man 6;woolly 6;woolly 5;woolly 4;woolly 3;woolly 2;woolly 1",
                5, 4, 3, 2, 1, 0);
        planIs("man 6;man 5;man 4;man 3;man 2;man 1;woolly 6;woolly 6;woolly 6;woolly 1;woolly 1;woolly 1",
                0, 1, 2, none, none, 3);
        NobodyCave x = Checks.told("man 3;ram 3");
        for (int edge : EDGES) {
            Checks.due("plan(" + edge + ")", x.plan(edge), Checks.UNKNOWN);
        }
        Checks.due("plan(1)", x.plan(1), Checks.UNKNOWN);
    }

    /** Promise 19: men who are in, sheep that are not gone, whoever hides now. */
    private static void planOfThoseWhoAreThere() {
        NobodyCave x = Checks.told("man 1;man 1;man 1;man 1;ram 9;ram 9;ram 9;eats 1;hard 1;sleep 1;near 255");
        x.hide(3, 0);
        String before = Checks.state(x);
        Checks.due("whoever hides: 3 of 4", x.plan(Checks.NONE), 3);
        Checks.due("whoever hides: the first sheep", x.plan(0), 0);
        Checks.due("whoever hides: none left", x.plan(3), Checks.NONE);
        Checks.same("plan", x, before);
        x.day();
        Checks.due("eaten", x.plan(0), Checks.NONE);
        Checks.due("the first who is in", x.plan(1), 0);
        Checks.due("the last", x.plan(3), 2);
        x.give(1);
        x.blind(0);
        x.morning();
        Checks.due("out", x.plan(3), Checks.NONE);
        Checks.due("the first sheep is gone", x.plan(1), 1);
        Checks.due("the second man", x.plan(2), 2);
        Checks.due("how many", x.plan(Checks.NONE), 2);
        Checks.due("unknown yet", x.plan(4), Checks.UNKNOWN);
    }

    /** Promise 20. */
    private static void feel() {
        NobodyCave x = Checks.told("man 9;man 9;man 1;woolly 1;woolly 9;woolly 9;hard 1;sleep 1;eats 0");
        int[] which = {0, 1, 3, 7, 7, 7, 7};
        int[] many = {3, 2, 1, 0, 0, 0, 0};
        String before = Checks.state(x);
        for (int k = 0; k <= 6; k++) {
            Checks.due("feel(" + k + ", 0)", x.feel(k, 0), which[k]);
            Checks.due("feel(" + k + ", 1)", x.feel(k, 1), many[k]);
        }
        Checks.same("feel", x, before);
        NobodyCave y = Checks.told("man 9;man 9;woolly 1;woolly 9;woolly 2;woolly 9;woolly 9");
        Checks.due("fewest by one: the least of all alike", y.feel(1, 0), 1);
        Checks.due("fewest by one: many", y.feel(1, 1), 2);
        Checks.due("fewest by two", y.feel(2, 0), 2 | 8);
        Checks.due("fewest by two: many", y.feel(2, 1), 1);
        Checks.due("fewest by three", y.feel(3, 0), 2 | 8 | 16);
        Checks.due("fewest by three: many", y.feel(3, 1), 0);
        Checks.due("fewest by four", y.feel(4, 0), 1 | 2 | 8 | 16);
        NobodyCave z = Checks.told("man 1;man 1;man 1;man 1;man 1;man 1;ram 1;ram 1;ram 1;ram 1;ram 1;ram 1");
        for (int k = 0; k <= 6; k++) {
            Checks.due("all alike: feel(" + k + ", 0)", z.feel(k, 0), (1 << k) - 1);
            Checks.due("all alike: feel(" + k + ", 1)", z.feel(k, 1), 6 - k);
        }
        x.hide(2, 0);
        x.day();
        x.give(1);
        x.blind(0);
        x.morning();
        Checks.due("gone: not felt", x.feel(1, 0), 2);
        Checks.due("gone: one out", x.feel(1, 1), 1);
        Checks.due("gone: all there are", x.feel(3, 0), 6);
        Checks.due("gone: none out", x.feel(6, 1), 0);
        for (int edge : EDGES) {
            Checks.due("feel(" + edge + ", 0)", x.feel(edge, 0), Checks.OUTSIDE);
            Checks.due("feel(0, " + edge + ")", x.feel(0, edge), Checks.OUTSIDE);
        }
        Checks.due("feel(-1, 0)", x.feel(-1, 0), Checks.OUTSIDE);
        Checks.due("feel(7, 0)", x.feel(7, 0), Checks.OUTSIDE);
        Checks.due("feel(0, -1)", x.feel(0, -1), Checks.OUTSIDE);
        Checks.due("feel(0, 2)", x.feel(0, 2), Checks.OUTSIDE);
    }

    /** Promise 21. */
    private static void names() {
        NobodyCave x = Checks.told("near 14;near 140");
        Checks.due("nobody comes", x.names(0), 12);
        Checks.due("the name", x.names(1), 2);
        NobodyCave y = Checks.told("near 4;near 96;near 64;near 128");
        Checks.due("somebody comes always", y.names(0), 0);
        Checks.due("fewest come", y.names(1), 6);
        NobodyCave z = Checks.told("near 128;near 128;near 129;near 255");
        Checks.due("by the last name", z.names(0), 128);
        Checks.due("the last name", z.names(1), 7);
        Checks.due("three of four come", Checks.told("near 0;near 32;near 64;near 0").names(1), 5);
        Checks.due("all are the same: all come", Checks.told("near 0;near 0").names(1), 0);
        Checks.due("no neighbours", new NobodyCave().names(0), 255);
        for (int edge : EDGES) {
            Checks.due("names(" + edge + ")", x.names(edge), Checks.OUTSIDE);
        }
        Checks.due("names(-1)", x.names(-1), Checks.OUTSIDE);
        Checks.due("names(2)", x.names(2), Checks.OUTSIDE);
    }

    /** Promise 22. */
    private static void came() {
        NobodyCave x = Checks.told("near 15;near 51;near 85;near 240");
        int all = 0;
        for (int set = 0; set < 16; set++) {
            int want = 0;
            for (int name = 0; name < 8; name++) {
                int come = ((15 >> name & 1) ^ 1) | ((51 >> name & 1) ^ 1) << 1 | ((85 >> name & 1) ^ 1) << 2
                        | ((240 >> name & 1) ^ 1) << 3;
                want |= come == set ? 1 << name : 0;
            }
            Checks.due("came(" + set + ")", x.came(set), want);
            all |= want;
        }
        Checks.due("each name is by some set", all, 255);
        Checks.due("came(16)", x.came(16), Checks.UNKNOWN);
        Checks.due("came(-1)", x.came(-1), Checks.UNKNOWN);
        for (int edge : EDGES) {
            Checks.due("came(" + edge + ")", x.came(edge), Checks.UNKNOWN);
        }
        Checks.due("a set with a neighbour too many", Checks.told("near 3;near 5").came(4), Checks.UNKNOWN);
        Checks.due("just both", Checks.told("near 3;near 5").came(3), 248);
    }
}
