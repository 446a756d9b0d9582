/** The giant's cave: what is told of it, what is done in it, and what can be foretold. */
public final class NobodyCave {
    public static final int NONE = -1, UNKNOWN = -2, OUTSIDE = -3, NOT = -4, FULL = -5;

    private static final int MEN = 6, SHEEP = 6, NEIGHBOURS = 4, NAMES = 8;
    private static final int LETTERS = 160, CLAUSES = 14, DIGITS = 3;
    private static final int MOST_CUPS = 50, LAST_DAY = 99, HARDEST = 9, STRONGEST = 20;
    private static final int UNDOS = 8, KEPT = 2, SIGHTS = 6;
    private static final int IN = 0, OUT = 1, EATEN = 2;

    private static final int WOOLLY = 0, RAM = 1, TIED = 2, BELL = 3;
    /** The kind right over each of the kinds 0 .. 4 by which a sheep can be taken. */
    private static final int[] OVER = {NONE, 0, 1, 1, 0};

    private static final int CAVE_WORD = 0, MAN_WORD = 1, WOOLLY_WORD = 2, RAM_WORD = 3, TIED_WORD = 4,
            BELL_WORD = 5, NEAR_WORD = 6, WINE_WORD = 7, SLEEP_WORD = 8, HARD_WORD = 9, EATS_WORD = 10, WORDS = 11;
    /** Bounds of the number behind each word; cave has none. */
    private static final int[] LEAST = {0, 1, 1, 1, 1, 1, 0, 0, 1, 1, 0};
    private static final int[] MOST = {0, 20, 20, 20, 20, 20, 255, MOST_CUPS, 9, 9, 3};

    private static final int BOASTS = 6, FARTHEST = 20, WIDEST_STEP = 5, LONGEST_BOAT = 9;
    private static final int FALLS = 5, FAR = 10, FAR_STEP = 5;

    private final Text text;
    private final Told told;
    /** What would be told behind the text, so far as it has been read. */
    private final Told draft;
    private final Scene now;
    private final Past past;
    private final Scene[] kept;
    private final boolean[] isKept;
    private final Planner planner;
    private final Sights sights;

    public NobodyCave() {
        text = new Text();
        told = new Told();
        draft = new Told();
        now = new Scene();
        past = new Past();
        kept = new Scene[KEPT];
        for (int k = 0; k < KEPT; k++) {
            kept[k] = new Scene();
        }
        isKept = new boolean[KEPT];
        planner = new Planner();
        sights = new Sights();
        now.begin(told);
    }

    // ---- what is told

    public int write(int letter) {
        if (isOutside(letter, 0, 255)) {
            return OUTSIDE;
        }
        return text.add((char) letter) ? text.length : FULL;
    }

    public int erase() {
        int had = text.length;
        text.length = 0;
        return had;
    }

    public int fault() {
        draft.copy(told);
        return text.read(draft);
    }

    public int cave() {
        draft.copy(told);
        if (text.read(draft) != NONE) {
            return NOT;
        }
        told.copy(draft);
        text.length = 0;
        beginAnew();
        return text.clauses;
    }

    public int man(int man, int what) {
        if (!told.hasMan(man)) {
            return UNKNOWN;
        }
        switch (what) {
            case 0: return told.weight[man];
            case 1: return now.stateOf(man);
            case 2: return now.under[man];
            default: return OUTSIDE;
        }
    }

    public int sheep(int sheep, int what) {
        if (!told.hasSheep(sheep)) {
            return UNKNOWN;
        }
        switch (what) {
            case 0: return told.kind[sheep];
            case 1: return told.strong[sheep];
            case 2: return hasBit(now.gone, sheep) ? 1 : 0;
            case 3: return now.whoIsUnder(sheep);
            default: return OUTSIDE;
        }
    }

    public int near(int neighbour) {
        return told.hasNeighbour(neighbour) ? told.takes[neighbour] : UNKNOWN;
    }

    public int as(int sheep, int kind) {
        if (!told.hasSheep(sheep)) {
            return UNKNOWN;
        }
        if (isOutside(kind, 0, OVER.length - 1)) {
            return OUTSIDE;
        }
        return isUnderKind(told.kind[sheep], kind) ? told.bears(sheep) : NOT;
    }

    // ---- what is done

    public int give(int n) {
        if (isOutside(n, 1, MOST_CUPS)) {
            return OUTSIDE;
        }
        if (now.blind || n > now.cups) {
            return NOT;
        }
        past.push(now);
        now.cups -= n;
        now.drunk += n;
        return now.drunk;
    }

    public int day() {
        if (now.day >= LAST_DAY) {
            return FULL;
        }
        past.push(now);
        int eaten = now.blind ? 0 : now.eatFirst(told.eats);
        now.stake = Math.min(HARDEST, now.stake + 1);
        now.drunk = 0;
        now.day++;
        return eaten;
    }

    public int blind(int name) {
        if (isOutside(name, 0, NAMES - 1)) {
            return OUTSIDE;
        }
        if (now.blind || now.drunk < told.sleep || now.stake < told.hard) {
            return NOT;
        }
        past.push(now);
        now.blind = true;
        int comers = told.comers(name);
        now.eatFirst(Integer.bitCount(comers));
        return comers;
    }

    public int hide(int man, int sheep) {
        if (!told.hasMan(man) || sheep != NONE && !told.hasSheep(sheep)) {
            return UNKNOWN;
        }
        if (!now.canHide(man, sheep)) {
            return NOT;
        }
        past.push(now);
        int was = now.under[man];
        now.under[man] = sheep;
        return was;
    }

    public int morning() {
        if (!now.blind) {
            return NOT;
        }
        past.push(now);
        return now.leave(told);
    }

    public int undo() {
        return past.pop(now) ? past.held : NOT;
    }

    public int keep(int k) {
        if (isOutside(k, 0, KEPT - 1)) {
            return UNKNOWN;
        }
        kept[k].copy(now);
        isKept[k] = true;
        return now.day;
    }

    public int back(int k) {
        if (isOutside(k, 0, KEPT - 1)) {
            return UNKNOWN;
        }
        if (!isKept[k]) {
            return NOT;
        }
        now.copy(kept[k]);
        past.clear();
        return now.day;
    }

    // ---- foretold

    public int soon(int what) {
        if (isOutside(what, 0, 1)) {
            return OUTSIDE;
        }
        int days = daysTillBlinded();
        if (what == 0 || days == NONE) {
            return days;
        }
        return Math.min(Integer.bitCount(now.in), days * told.eats);
    }

    public int plan(int man) {
        if (man != NONE && !told.hasMan(man)) {
            return UNKNOWN;
        }
        planner.reckon(told, now);
        return man == NONE ? planner.mostOut(0) : planner.sheepOf(man);
    }

    public int feel(int k, int what) {
        if (isOutside(k, 0, SHEEP) || isOutside(what, 0, 1)) {
            return OUTSIDE;
        }
        planner.reckon(told, now);
        int felt = planner.bestFelt(told.allSheep() & ~now.gone, k);
        return what == 0 ? felt : planner.mostOut(felt);
    }

    public int names(int what) {
        switch (what) {
            case 0: return told.namesFor(0);
            case 1: return told.quietestName();
            default: return OUTSIDE;
        }
    }

    public int came(int set) {
        return isOutside(set, 0, allBits(told.neighbours)) ? UNKNOWN : told.namesFor(set);
    }

    // ---- what was seen, the boat

    public int seen(int man, int sheep, int out) {
        if (!told.hasMan(man) || !told.hasSheep(sheep)) {
            return UNKNOWN;
        }
        if (isOutside(out, 0, 1)) {
            return OUTSIDE;
        }
        return sights.add(man, sheep, out == 1) ? sights.held : FULL;
    }

    public int forget() {
        int had = sights.held;
        sights.held = 0;
        return had;
    }

    public int strong(int sheep, int what) {
        if (!told.hasSheep(sheep)) {
            return UNKNOWN;
        }
        switch (what) {
            case 0: return sights.leastStrong(told, sheep);
            case 1: return sights.greatestStrong(told, sheep);
            default: return OUTSIDE;
        }
    }

    public int boasts(int n, int d, int r, int b, int part) {
        if (isOutside(n, 0, BOASTS) || isOutside(d, 0, FARTHEST) || isOutside(r, 0, WIDEST_STEP)
                || isOutside(b, 0, LONGEST_BOAT) || isOutside(part, 0, 1)) {
            return OUTSIDE;
        }
        int above = 1;
        int below = 1;
        for (int i = 0; i < n; i++) {
            above *= fallsThatMiss(d + i * r, b);
            below *= FALLS;
        }
        // Below is a power of the prime FALLS, so nothing else can be common to both.
        for (int i = 0; i < n; i++) {
            if (above % FALLS == 0 && below % FALLS == 0) {
                above /= FALLS;
                below /= FALLS;
            }
        }
        return part == 0 ? above : below;
    }

    public int count(int what) {
        switch (what) {
            case 0: return told.men;
            case 1: return told.sheep;
            case 2: return told.neighbours;
            case 3: return now.day;
            case 4: return now.cups;
            case 5: return now.drunk;
            case 6: return now.stake;
            case 7: return now.blind ? 1 : 0;
            case 8: return now.in;
            case 9: return now.out;
            case 10: return now.eaten;
            case 11: return now.gone;
            case 12: return sights.held;
            case 13: return past.held;
            case 14: return text.length;
            default: return OUTSIDE;
        }
    }

    // ---- behind the face

    private void beginAnew() {
        now.begin(told);
        past.clear();
        sights.held = 0;
        for (int k = 0; k < KEPT; k++) {
            isKept[k] = false;
        }
    }

    private int daysTillBlinded() {
        if (now.blind) {
            return NONE;
        }
        int days = Math.max(0, told.hard - now.stake);
        // What he drank is slept off with the day, so it helps on this day alone.
        int drunkThen = days == 0 ? now.drunk + now.cups : now.cups;
        return drunkThen >= told.sleep ? days : NONE;
    }

    private static int fallsThatMiss(int distance, int boat) {
        int shorter = distance < FAR ? 0 : (distance - FAR) / FAR_STEP + 1;
        int hits = Math.max(0, boat - shorter + 1);
        return Math.max(0, FALLS - hits);
    }

    private static boolean isUnderKind(int toldKind, int asked) {
        // Kinds as told begin with WOOLLY, kinds as they are over one another with SHEEP.
        int kind = toldKind + 1;
        for (int n = 0; n < OVER.length && kind >= 0 && kind < OVER.length; n++) {
            if (kind == asked) {
                return true;
            }
            kind = OVER[kind];
        }
        return false;
    }

    private static int bearing(int kind, int strong) {
        switch (kind) {
            case RAM: return strong + strong / 2;
            case TIED: return 2 * strong;
            case BELL: return Math.max(0, strong - 3);
            default: return strong;
        }
    }

    private static boolean isOutside(int number, int least, int most) {
        return number < least || number > most;
    }

    private static boolean hasBit(int bits, int place) {
        return (bits >> place & 1) == 1;
    }

    private static int allBits(int n) {
        return (1 << n) - 1;
    }

    /** What texts told: it stays as it is until the next text. */
    private static final class Told {
        int men, sheep, neighbours, wine, sleep, hard, eats;
        final int[] weight = new int[MEN];
        final int[] kind = new int[SHEEP];
        final int[] strong = new int[SHEEP];
        final int[] takes = new int[NEIGHBOURS];

        Told() {
            reset();
        }

        void reset() {
            men = 0;
            sheep = 0;
            neighbours = 0;
            wine = 12;
            sleep = 3;
            hard = 4;
            eats = 2;
        }

        void copy(Told from) {
            men = from.men;
            sheep = from.sheep;
            neighbours = from.neighbours;
            wine = from.wine;
            sleep = from.sleep;
            hard = from.hard;
            eats = from.eats;
            System.arraycopy(from.weight, 0, weight, 0, MEN);
            System.arraycopy(from.kind, 0, kind, 0, SHEEP);
            System.arraycopy(from.strong, 0, strong, 0, SHEEP);
            System.arraycopy(from.takes, 0, takes, 0, NEIGHBOURS);
        }

        boolean hasRoomFor(int word) {
            switch (word) {
                case MAN_WORD: return men < MEN;
                case WOOLLY_WORD:
                case RAM_WORD:
                case TIED_WORD:
                case BELL_WORD: return sheep < SHEEP;
                case NEAR_WORD: return neighbours < NEIGHBOURS;
                default: return true;
            }
        }

        void tell(int word, int number) {
            if (!hasRoomFor(word)) {
                return;
            }
            switch (word) {
                case CAVE_WORD: reset(); break;
                case MAN_WORD: weight[men++] = number; break;
                case WOOLLY_WORD: addSheep(WOOLLY, number); break;
                case RAM_WORD: addSheep(RAM, number); break;
                case TIED_WORD: addSheep(TIED, number); break;
                case BELL_WORD: addSheep(BELL, number); break;
                case NEAR_WORD: takes[neighbours++] = number; break;
                case WINE_WORD: wine = number; break;
                case SLEEP_WORD: sleep = number; break;
                case HARD_WORD: hard = number; break;
                case EATS_WORD: eats = number; break;
                default: break;
            }
        }

        private void addSheep(int itsKind, int itsStrong) {
            kind[sheep] = itsKind;
            strong[sheep] = itsStrong;
            sheep++;
        }

        boolean hasMan(int man) {
            return man >= 0 && man < men;
        }

        boolean hasSheep(int which) {
            return which >= 0 && which < sheep;
        }

        boolean hasNeighbour(int neighbour) {
            return neighbour >= 0 && neighbour < neighbours;
        }

        int allSheep() {
            return allBits(sheep);
        }

        int bears(int which) {
            return hasSheep(which) ? bearing(kind[which], strong[which]) : 0;
        }

        boolean bearsMan(int which, int man) {
            return hasSheep(which) && hasMan(man) && bears(which) >= weight[man];
        }

        int comers(int name) {
            int comers = 0;
            for (int n = 0; n < neighbours; n++) {
                if (!hasBit(takes[n], name)) {
                    comers |= 1 << n;
                }
            }
            return comers;
        }

        int namesFor(int set) {
            int found = 0;
            for (int name = 0; name < NAMES; name++) {
                if (comers(name) == set) {
                    found |= 1 << name;
                }
            }
            return found;
        }

        int quietestName() {
            int best = 0;
            int fewest = NEIGHBOURS + 1;
            for (int name = 0; name < NAMES; name++) {
                int come = Integer.bitCount(comers(name));
                if (come < fewest) {
                    fewest = come;
                    best = name;
                }
            }
            return best;
        }
    }

    /** The text, and its reading from token to token. */
    private static final class Text {
        final char[] letters = new char[LETTERS];
        int length;
        /** How many clauses the last text had in which there was no fault. */
        int clauses;
        /** The token: from its first letter to behind its last; both are the length at the end. */
        private int begin, end;

        boolean add(char letter) {
            if (length >= LETTERS) {
                return false;
            }
            letters[length++] = letter;
            return true;
        }

        /** Tells all clauses up to the fault; answers its place, or NONE. */
        int read(Told teller) {
            end = 0;
            for (int n = 0; n < CLAUSES; n++) {
                if (!readClause(teller)) {
                    return begin;
                }
                nextToken();
                if (begin >= length) {
                    clauses = n + 1;
                    return NONE;
                }
                if (letters[begin] != ';') {
                    return begin;
                }
            }
            // Behind the last clause that there may be, not even ; can stand.
            return begin;
        }

        private boolean readClause(Told teller) {
            nextToken();
            int word = wordHere();
            if (word == NONE || !teller.hasRoomFor(word)) {
                return false;
            }
            int number = 0;
            if (word != CAVE_WORD) {
                nextToken();
                number = numberHere();
                if (number == NONE || isOutside(number, LEAST[word], MOST[word])) {
                    return false;
                }
            }
            teller.tell(word, number);
            return true;
        }

        private void nextToken() {
            begin = end;
            while (begin < length && letters[begin] == ' ') {
                begin++;
            }
            end = begin;
            if (begin >= length) {
                return;
            }
            end++;
            boolean small = isSmall(letters[begin]);
            boolean digit = isDigit(letters[begin]);
            while (end < length && (small && isSmall(letters[end]) || digit && isDigit(letters[end]))) {
                end++;
            }
        }

        private int wordHere() {
            for (int word = 0; word < WORDS; word++) {
                if (tokenIs(spelling(word))) {
                    return word;
                }
            }
            return NONE;
        }

        private boolean tokenIs(String spelling) {
            if (end - begin != spelling.length()) {
                return false;
            }
            for (int i = 0; i < spelling.length(); i++) {
                if (letters[begin + i] != spelling.charAt(i)) {
                    return false;
                }
            }
            return true;
        }

        private int numberHere() {
            if (begin >= length || end - begin > DIGITS || !isDigit(letters[begin])) {
                return NONE;
            }
            int number = 0;
            for (int i = begin; i < end; i++) {
                number = 10 * number + letters[i] - '0';
            }
            return number;
        }

        private static boolean isSmall(char letter) {
            return letter >= 'a' && letter <= 'z';
        }

        private static boolean isDigit(char letter) {
            return letter >= '0' && letter <= '9';
        }

        private static String spelling(int word) {
            switch (word) {
                case CAVE_WORD: return "cave";
                case MAN_WORD: return "man";
                case WOOLLY_WORD: return "woolly";
                case RAM_WORD: return "ram";
                case TIED_WORD: return "tied";
                case BELL_WORD: return "bell";
                case NEAR_WORD: return "near";
                case WINE_WORD: return "wine";
                case SLEEP_WORD: return "sleep";
                case HARD_WORD: return "hard";
                default: return "eats";
            }
        }
    }

    /** All that what is done can change, so that a copy of it is all that must be kept. */
    private static final class Scene {
        int day, cups, drunk, stake;
        boolean blind;
        /** Men by bits; each man is in one of the three. */
        int in, out, eaten;
        /** Sheep by bits. */
        int gone;
        /** The sheep under which each man hides, or NONE. */
        final int[] under = new int[MEN];

        void begin(Told told) {
            day = 0;
            cups = told.wine;
            drunk = 0;
            stake = 0;
            blind = false;
            in = allBits(told.men);
            out = 0;
            eaten = 0;
            gone = 0;
            for (int man = 0; man < MEN; man++) {
                under[man] = NONE;
            }
        }

        void copy(Scene from) {
            day = from.day;
            cups = from.cups;
            drunk = from.drunk;
            stake = from.stake;
            blind = from.blind;
            in = from.in;
            out = from.out;
            eaten = from.eaten;
            gone = from.gone;
            System.arraycopy(from.under, 0, under, 0, MEN);
        }

        int stateOf(int man) {
            if (hasBit(in, man)) {
                return IN;
            }
            return hasBit(out, man) ? OUT : EATEN;
        }

        int whoIsUnder(int sheep) {
            for (int man = 0; man < MEN; man++) {
                if (under[man] == sheep) {
                    return man;
                }
            }
            return NONE;
        }

        boolean canHide(int man, int sheep) {
            if (!hasBit(in, man)) {
                return false;
            }
            if (sheep == NONE) {
                return man >= 0 && man < MEN && under[man] != NONE;
            }
            return !hasBit(gone, sheep) && whoIsUnder(sheep) == NONE;
        }

        /** Of the men who are in, the first so many are eaten; answers which. */
        int eatFirst(int many) {
            int found = 0;
            int left = many;
            for (int man = 0; man < MEN && left > 0; man++) {
                if (hasBit(in, man)) {
                    found |= 1 << man;
                    under[man] = NONE;
                    left--;
                }
            }
            in &= ~found;
            eaten |= found;
            return found;
        }

        /** The morning: answers who got out by it. */
        int leave(Told told) {
            int gotOut = 0;
            for (int man = 0; man < MEN; man++) {
                int sheep = under[man];
                if (sheep == NONE) {
                    continue;
                }
                under[man] = NONE;
                in &= ~(1 << man);
                if (told.bearsMan(sheep, man)) {
                    gotOut |= 1 << man;
                    gone |= 1 << sheep;
                } else {
                    eaten |= 1 << man;
                }
            }
            out |= gotOut;
            return gotOut;
        }
    }

    /** The scenes before the last deeds, in a ring. */
    private static final class Past {
        int held;
        private int next;
        private final Scene[] ring = new Scene[UNDOS];

        Past() {
            for (int i = 0; i < UNDOS; i++) {
                ring[i] = new Scene();
            }
        }

        void clear() {
            held = 0;
        }

        void push(Scene scene) {
            ring[next].copy(scene);
            next = (next + 1) % UNDOS;
            held = Math.min(UNDOS, held + 1);
        }

        boolean pop(Scene into) {
            if (held == 0) {
                return false;
            }
            next = (next + UNDOS - 1) % UNDOS;
            into.copy(ring[next]);
            held--;
            return true;
        }
    }

    /** Who should hide where, and which sheep should be felt. */
    private static final class Planner {
        private static final int SETS = 1 << SHEEP;
        /** Sheep (bits) that each man could get out under. */
        private final int[] fits = new int[MEN];
        /** At man * SETS + set: how many of this man and those behind him get out without that set of sheep. */
        private final int[] most = new int[(MEN + 1) * SETS];

        void reckon(Told told, Scene scene) {
            // No set holds a sheep that is not told, so the sets above these are never looked up.
            int sets = 1 << told.sheep;
            for (int man = MEN - 1; man >= 0; man--) {
                fits[man] = fitting(told, scene, man);
                for (int taken = 0; taken < sets && taken < SETS; taken++) {
                    most[man * SETS + taken] = bestFrom(man, taken);
                }
            }
        }

        private static int fitting(Told told, Scene scene, int man) {
            int found = 0;
            for (int sheep = 0; sheep < SHEEP; sheep++) {
                if (hasBit(scene.in, man) && !hasBit(scene.gone, sheep) && told.bearsMan(sheep, man)) {
                    found |= 1 << sheep;
                }
            }
            return found;
        }

        private int bestFrom(int man, int taken) {
            int next = (man + 1) * SETS;
            int best = most[next + taken];
            int open = fits[man] & ~taken;
            for (int sheep = 0; open >> sheep != 0 && sheep < SHEEP; sheep++) {
                if (hasBit(open, sheep)) {
                    best = Math.max(best, 1 + most[next + (taken | 1 << sheep)]);
                }
            }
            return best;
        }

        /** How many get out, if nobody is under a set of sheep. */
        int mostOut(int without) {
            return without >= 0 && without < SETS ? most[without] : 0;
        }

        int sheepOf(int man) {
            int taken = 0;
            int sheep = NONE;
            for (int m = 0; m <= man && m < MEN; m++) {
                sheep = firstBest(m, taken);
                if (sheep != NONE) {
                    taken |= 1 << sheep;
                }
            }
            return sheep;
        }

        /** The least sheep that a man can take with none the fewer getting out; NONE only if there is no such. */
        private int firstBest(int man, int taken) {
            int open = fits[man] & ~taken;
            for (int sheep = 0; sheep < SHEEP; sheep++) {
                if (hasBit(open, sheep)
                        && 1 + most[(man + 1) * SETS + (taken | 1 << sheep)] == most[man * SETS + taken]) {
                    return sheep;
                }
            }
            return NONE;
        }

        int bestFelt(int there, int k) {
            int size = Math.min(k, Integer.bitCount(there));
            int best = 0;
            int fewest = MEN + 1;
            for (int set = 0; set < SETS; set++) {
                if ((set & ~there) == 0 && Integer.bitCount(set) == size && most[set] < fewest) {
                    fewest = most[set];
                    best = set;
                }
            }
            return best;
        }
    }

    /** What was seen of men under sheep, and how strong a sheep is by it. */
    private static final class Sights {
        int held;
        private final int[] men = new int[SIGHTS];
        private final int[] sheep = new int[SIGHTS];
        private final boolean[] out = new boolean[SIGHTS];

        boolean add(int man, int which, boolean wasOut) {
            if (held >= SIGHTS) {
                return false;
            }
            men[held] = man;
            sheep[held] = which;
            out[held] = wasOut;
            held++;
            return true;
        }

        int leastStrong(Told told, int which) {
            for (int strong = 1; strong <= STRONGEST; strong++) {
                if (wouldBeSo(told, which, strong)) {
                    return strong;
                }
            }
            return NONE;
        }

        int greatestStrong(Told told, int which) {
            for (int strong = STRONGEST; strong >= 1; strong--) {
                if (wouldBeSo(told, which, strong)) {
                    return strong;
                }
            }
            return NONE;
        }

        private boolean wouldBeSo(Told told, int which, int strong) {
            int bears = bearing(told.kind[which], strong);
            for (int i = 0; i < held; i++) {
                if (sheep[i] == which && bears >= told.weight[men[i]] != out[i]) {
                    return false;
                }
            }
            return true;
        }
    }
}
