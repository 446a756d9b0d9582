import java.util.ArrayDeque;
import java.util.ArrayList;
import java.util.Arrays;
import java.util.List;
import java.util.regex.Matcher;
import java.util.regex.Pattern;

/** The document told a second time, slowly: by lists, patterns and trying all. */
final class Model {
    private static final int NONE = -1, UNKNOWN = -2, OUTSIDE = -3, NOT = -4, FULL = -5;
    private static final Pattern TOKEN = Pattern.compile("[a-z]+|[0-9]+|[^ ]", Pattern.DOTALL);
    private static final List<String> KINDS = List.of("woolly", "ram", "tied", "bell");

    private record Clause(String word, int number) { }

    /** What is told: rows of {weight}, {kind, strong}, {takes}. */
    private static final class Cave {
        List<Integer> men = new ArrayList<>();
        List<int[]> sheep = new ArrayList<>();
        List<Integer> near = new ArrayList<>();
        int wine = 12, sleep = 3, hard = 4, eats = 2;

        Cave copy() {
            Cave c = new Cave();
            c.men.addAll(men);
            c.sheep.addAll(sheep);
            c.near.addAll(near);
            c.wine = wine;
            c.sleep = sleep;
            c.hard = hard;
            c.eats = eats;
            return c;
        }
    }

    private static final class Deeds {
        int day, cups, drunk, stake;
        boolean blind;
        int[] state, under;
        boolean[] gone;

        Deeds copy() {
            Deeds s = new Deeds();
            s.day = day;
            s.cups = cups;
            s.drunk = drunk;
            s.stake = stake;
            s.blind = blind;
            s.state = state.clone();
            s.under = under.clone();
            s.gone = gone.clone();
            return s;
        }
    }

    private final StringBuilder text = new StringBuilder();
    private Cave cave = new Cave();
    private Deeds now;
    private final ArrayDeque<Deeds> past = new ArrayDeque<>();
    private final Deeds[] kept = new Deeds[2];
    private final List<int[]> sights = new ArrayList<>();

    Model() {
        begin();
    }

    private void begin() {
        now = new Deeds();
        now.cups = cave.wine;
        now.state = new int[cave.men.size()];
        now.under = new int[cave.men.size()];
        Arrays.fill(now.under, NONE);
        now.gone = new boolean[cave.sheep.size()];
        past.clear();
        sights.clear();
        kept[0] = null;
        kept[1] = null;
    }

    int write(int letter) {
        if (letter < 0 || letter > 255) return OUTSIDE;
        if (text.length() == 160) return FULL;
        return text.append((char) letter).length();
    }

    int erase() {
        int had = text.length();
        text.setLength(0);
        return had;
    }

    /** Puts the clauses into the list; answers the fault. */
    private int read(List<Clause> into, Cave draft) {
        List<String> tokens = new ArrayList<>();
        List<Integer> places = new ArrayList<>();
        for (Matcher m = TOKEN.matcher(text); m.find(); ) {
            tokens.add(m.group());
            places.add(m.start());
        }
        tokens.add("");
        places.add(text.length());
        int at = 0;
        while (true) {
            String word = tokens.get(at);
            int number = 0;
            if (!hasPlace(draft, word)) return places.get(at);
            if (!word.equals("cave")) {
                at++;
                String digits = tokens.get(at);
                if (!digits.matches("[0-9]{1,3}")) return places.get(at);
                number = Integer.parseInt(digits);
                if (number < least(word) || number > most(word)) return places.get(at);
            }
            at++;
            into.add(new Clause(word, number));
            perform(draft, word, number);
            if (tokens.get(at).isEmpty()) return NONE;
            if (!tokens.get(at).equals(";") || into.size() == 14) return places.get(at);
            at++;
        }
    }

    private static boolean hasPlace(Cave c, String word) {
        if (KINDS.contains(word)) return c.sheep.size() < 6;
        return switch (word) {
            case "man" -> c.men.size() < 6;
            case "near" -> c.near.size() < 4;
            case "cave", "wine", "sleep", "hard", "eats" -> true;
            default -> false;
        };
    }

    private static int least(String word) {
        return word.equals("near") || word.equals("wine") || word.equals("eats") ? 0 : 1;
    }

    private static int most(String word) {
        return switch (word) {
            case "near" -> 255;
            case "wine" -> 50;
            case "sleep", "hard" -> 9;
            case "eats" -> 3;
            default -> 20;
        };
    }

    private static void perform(Cave c, String word, int number) {
        switch (word) {
            case "cave" -> {
                Cave first = new Cave();
                c.men.clear();
                c.sheep.clear();
                c.near.clear();
                c.wine = first.wine;
                c.sleep = first.sleep;
                c.hard = first.hard;
                c.eats = first.eats;
            }
            case "man" -> c.men.add(number);
            case "near" -> c.near.add(number);
            case "wine" -> c.wine = number;
            case "sleep" -> c.sleep = number;
            case "hard" -> c.hard = number;
            case "eats" -> c.eats = number;
            default -> c.sheep.add(new int[] {KINDS.indexOf(word), number});
        }
    }

    int fault() {
        return read(new ArrayList<>(), cave.copy());
    }

    int cave() {
        List<Clause> clauses = new ArrayList<>();
        Cave draft = cave.copy();
        if (read(clauses, draft) != NONE) return NOT;
        cave = draft;
        text.setLength(0);
        begin();
        return clauses.size();
    }

    private boolean noMan(int man) {
        return man < 0 || man >= cave.men.size();
    }

    private boolean noSheep(int sheep) {
        return sheep < 0 || sheep >= cave.sheep.size();
    }

    private static boolean no(int number, int least, int most) {
        return number < least || number > most;
    }

    int man(int man, int what) {
        if (noMan(man)) return UNKNOWN;
        if (no(what, 0, 2)) return OUTSIDE;
        return new int[] {cave.men.get(man), now.state[man], now.under[man]}[what];
    }

    private int who(int sheep) {
        for (int m = 0; m < now.under.length; m++) if (now.under[m] == sheep) return m;
        return NONE;
    }

    int sheep(int sheep, int what) {
        if (noSheep(sheep)) return UNKNOWN;
        if (no(what, 0, 3)) return OUTSIDE;
        int[] s = cave.sheep.get(sheep);
        return new int[] {s[0], s[1], now.gone[sheep] ? 1 : 0, who(sheep)}[what];
    }

    int near(int n) {
        return n < 0 || n >= cave.near.size() ? UNKNOWN : cave.near.get(n);
    }

    private static int bears(int kind, int strong) {
        if (kind == 1) return strong * 3 / 2;
        if (kind == 2) return strong + strong;
        return kind == 3 ? (strong <= 3 ? 0 : strong - 3) : strong;
    }

    private int bears(int sheep) {
        return bears(cave.sheep.get(sheep)[0], cave.sheep.get(sheep)[1]);
    }

    int as(int sheep, int kind) {
        if (noSheep(sheep)) return UNKNOWN;
        if (no(kind, 0, 4)) return OUTSIDE;
        int own = cave.sheep.get(sheep)[0];
        boolean is = switch (kind) {
            case 0 -> true;
            case 1 -> own != 3;
            default -> own == kind - 1;
        };
        return is ? bears(sheep) : NOT;
    }

    private void done() {
        past.addLast(now.copy());
        if (past.size() > 8) past.removeFirst();
    }

    int give(int n) {
        if (no(n, 1, 50)) return OUTSIDE;
        if (now.blind || n > now.cups) return NOT;
        done();
        now.cups -= n;
        return now.drunk += n;
    }

    private int eat(int many) {
        int bits = 0;
        for (int i = 0; i < many; i++) {
            for (int m = 0; m < now.state.length; m++) {
                if (now.state[m] == 0) {
                    now.state[m] = 2;
                    now.under[m] = NONE;
                    bits += 1 << m;
                    break;
                }
            }
        }
        return bits;
    }

    int day() {
        if (now.day == 99) return FULL;
        done();
        int bits = now.blind ? 0 : eat(cave.eats);
        if (now.stake < 9) now.stake++;
        now.drunk = 0;
        now.day++;
        return bits;
    }

    private int comers(int name) {
        int bits = 0;
        for (int n = 0; n < cave.near.size(); n++) if ((cave.near.get(n) & 1 << name) == 0) bits += 1 << n;
        return bits;
    }

    int blind(int name) {
        if (no(name, 0, 7)) return OUTSIDE;
        if (now.blind || now.drunk < cave.sleep || now.stake < cave.hard) return NOT;
        done();
        now.blind = true;
        eat(Integer.bitCount(comers(name)));
        return comers(name);
    }

    int hide(int man, int sheep) {
        if (noMan(man) || sheep != NONE && noSheep(sheep)) return UNKNOWN;
        if (now.state[man] != 0) return NOT;
        int was = now.under[man];
        if (sheep == NONE ? was == NONE : now.gone[sheep] || who(sheep) != NONE) return NOT;
        done();
        now.under[man] = sheep;
        return was;
    }

    int morning() {
        if (!now.blind) return NOT;
        done();
        int bits = 0;
        for (int m = 0; m < now.under.length; m++) {
            int s = now.under[m];
            now.under[m] = NONE;
            if (s == NONE) continue;
            boolean borne = cave.men.get(m) <= bears(s);
            now.state[m] = borne ? 1 : 2;
            now.gone[s] |= borne;
            bits += borne ? 1 << m : 0;
        }
        return bits;
    }

    int undo() {
        if (past.isEmpty()) return NOT;
        now = past.removeLast();
        return past.size();
    }

    int keep(int k) {
        if (no(k, 0, 1)) return UNKNOWN;
        kept[k] = now.copy();
        return now.day;
    }

    int back(int k) {
        if (no(k, 0, 1)) return UNKNOWN;
        if (kept[k] == null) return NOT;
        now = kept[k].copy();
        past.clear();
        return now.day;
    }

    /** Lets days go by in a copy until all cups that there are make him sleep and the stake is hard. */
    int soon(int what) {
        if (no(what, 0, 1)) return OUTSIDE;
        if (now.blind) return NONE;
        Deeds was = now;
        now = was.copy();
        int lost = 0;
        int answer = NONE;
        for (int days = 0; days <= 10 && answer == NONE; days++) {
            if (now.stake >= cave.hard && now.drunk + now.cups >= cave.sleep) {
                answer = what == 0 ? days : lost;
            }
            lost += Integer.bitCount(eat(cave.eats));
            now.stake = Math.min(9, now.stake + 1);
            now.drunk = 0;
        }
        now = was;
        return answer;
    }

    /** All plans in their order; the first with the most stays. */
    private void plans(int man, int[] plan, boolean[] used, int many, int[] best) {
        if (man == plan.length) {
            if (many > best[plan.length]) {
                System.arraycopy(plan, 0, best, 0, plan.length);
                best[plan.length] = many;
            }
            return;
        }
        for (int s = 0; s < used.length && now.state[man] == 0; s++) {
            if (used[s] || now.gone[s] || bears(s) < cave.men.get(man)) continue;
            used[s] = true;
            plan[man] = s;
            plans(man + 1, plan, used, many + 1, best);
            used[s] = false;
        }
        plan[man] = NONE;
        plans(man + 1, plan, used, many, best);
    }

    private int[] bestPlan(int without) {
        int n = cave.men.size();
        boolean[] used = new boolean[cave.sheep.size()];
        for (int s = 0; s < used.length; s++) used[s] = (without >> s & 1) == 1;
        int[] best = new int[n + 1];
        best[n] = -1;
        plans(0, new int[n], used, 0, best);
        return best;
    }

    int plan(int man) {
        if (man != NONE && noMan(man)) return UNKNOWN;
        return bestPlan(0)[man == NONE ? cave.men.size() : man];
    }

    int feel(int k, int what) {
        if (no(k, 0, 6) || no(what, 0, 1)) return OUTSIDE;
        int there = 0;
        for (int s = 0; s < now.gone.length; s++) there += now.gone[s] ? 0 : 1 << s;
        int size = Math.min(k, Integer.bitCount(there));
        int which = 0;
        int fewest = 99;
        for (int set = 0; set < 64; set++) {
            if ((set | there) != there || Integer.bitCount(set) != size) continue;
            int many = bestPlan(set)[cave.men.size()];
            if (many < fewest) {
                fewest = many;
                which = set;
            }
        }
        return what == 0 ? which : fewest;
    }

    int names(int what) {
        if (no(what, 0, 1)) return OUTSIDE;
        if (what == 0) return came(0);
        for (int many = 0; many <= 4; many++) {
            for (int name = 0; name < 8; name++) if (Integer.bitCount(comers(name)) == many) return name;
        }
        return NOT;
    }

    int came(int set) {
        if (set < 0 || set >> cave.near.size() != 0) return UNKNOWN;
        int bits = 0;
        for (int name = 0; name < 8; name++) if (comers(name) == set) bits += 1 << name;
        return bits;
    }

    int seen(int man, int sheep, int out) {
        if (noMan(man) || noSheep(sheep)) return UNKNOWN;
        if (no(out, 0, 1)) return OUTSIDE;
        if (sights.size() == 6) return FULL;
        sights.add(new int[] {man, sheep, out});
        return sights.size();
    }

    int forget() {
        int had = sights.size();
        sights.clear();
        return had;
    }

    int strong(int sheep, int what) {
        if (noSheep(sheep)) return UNKNOWN;
        if (no(what, 0, 1)) return OUTSIDE;
        List<Integer> all = new ArrayList<>();
        for (int strong = 1; strong <= 20; strong++) {
            int bears = bears(cave.sheep.get(sheep)[0], strong);
            boolean so = true;
            for (int[] s : sights) so &= s[1] != sheep || (cave.men.get(s[0]) <= bears ? 1 : 0) == s[2];
            if (so) all.add(strong);
        }
        return all.isEmpty() ? NONE : all.get(what == 0 ? 0 : all.size() - 1);
    }

    /** Counts all ways in which the stones can fall. */
    int boasts(int n, int d, int r, int b, int part) {
        if (no(n, 0, 6) || no(d, 0, 20) || no(r, 0, 5) || no(b, 0, 9) || no(part, 0, 1)) return OUTSIDE;
        int all = 1;
        for (int i = 0; i < n; i++) all *= 5;
        int never = 0;
        for (int way = 0; way < all; way++) {
            boolean hit = false;
            for (int i = 0, rest = way; i < n; i++, rest /= 5) {
                int length = b;
                for (int begun = 10; begun <= d + i * r; begun += 5) length--;
                hit |= rest % 5 <= length;
            }
            never += hit ? 0 : 1;
        }
        int common = all;
        while (all % common != 0 || never % common != 0) common--;
        return (part == 0 ? never : all) / common;
    }

    private int menWho(int state) {
        int bits = 0;
        for (int m = 0; m < now.state.length; m++) bits += now.state[m] == state ? 1 << m : 0;
        return bits;
    }

    int count(int what) {
        if (no(what, 0, 14)) return OUTSIDE;
        int gone = 0;
        for (int s = 0; s < now.gone.length; s++) gone += now.gone[s] ? 1 << s : 0;
        return new int[] {cave.men.size(), cave.sheep.size(), cave.near.size(), now.day, now.cups, now.drunk, now.stake,
            now.blind ? 1 : 0, menWho(0), menWho(1), menWho(2), gone, sights.size(), past.size(), text.length()}[what];
    }
}
