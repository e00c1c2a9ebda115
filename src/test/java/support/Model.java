import java.util.ArrayDeque;
import java.util.ArrayList;
import java.util.Arrays;
import java.util.List;

/**
 * The document told again in the slowest words: every way, every row of turns, every matching is tried.
 * Nothing of it is taken from the program, so that the two can be held against each other.
 */
final class Model {
    static final int NONE = -1, UNKNOWN = -1000000001, OUTSIDE = -1000000002, NOT = -1000000003, FULL = -1000000004;

    /** All of section 2. */
    private static final class So {
        int[] stands = new int[0], knows = new int[0], heads = new int[0];
        boolean[] walls = new boolean[0], home = new boolean[0];
        int nights, paid;

        So copy() {
            So so = new So();
            so.stands = stands.clone();
            so.knows = knows.clone();
            so.heads = heads.clone();
            so.walls = walls.clone();
            so.home = home.clone();
            so.nights = nights;
            so.paid = paid;
            return so;
        }
    }

    private final StringBuilder text = new StringBuilder();
    private ModelText told = new ModelText("");
    private int faultAt = NONE;
    private So so = new So();
    private ArrayDeque<So> past = new ArrayDeque<>();
    private final So[] images = new So[2];
    private final long[] imageSeeds = new long[2];
    private List<int[]> heard = null;
    private final List<int[]> book = new ArrayList<>();
    private long seed = 0;

    int feed(int letter) {
        if (letter < 0 || letter > 255) return OUTSIDE;
        if (text.length() == 240) return FULL;
        text.append((char) letter);
        return text.length();
    }

    int city() {
        ModelText read = new ModelText(text.toString());
        text.setLength(0);
        faultAt = read.faultAt;
        if (read.fault != 0) return -10 - read.fault;
        told = read;
        so = new So();
        so.walls = new boolean[told.n];
        so.home = new boolean[told.clients.size()];
        so.stands = told.guides.stream().mapToInt(g -> g[0]).toArray();
        so.knows = told.guides.stream().mapToInt(g -> g[2]).toArray();
        so.heads = new int[told.guides.size()];
        past.clear();
        Arrays.fill(images, null);
        heard = null;
        book.clear();
        return told.n;
    }

    int fault() {
        return faultAt;
    }

    int told(int what) {
        int[] answers = {told.n, told.guides.size(), told.clients.size(), text.length(), so.nights, moon(), setOf(so.walls),
            setOf(so.home), so.paid, talk(), heard == null ? NONE : heard.size() - 1, here(false), book.size(), past.size()};
        return what < 0 || what >= answers.length ? OUTSIDE : answers[what];
    }

    private int moon() {
        // Math.max: Java 17's compiler may move the division ahead of the test for an empty row (see NOTES.md)
        return told.moons.isEmpty() ? 0 : told.moons.get(so.nights % Math.max(1, told.moons.size()));
    }

    private static int setOf(boolean[] row) {
        int set = 0;
        for (int i = 0; i < row.length; i++) if (row[i]) set += 1 << i;
        return set;
    }

    private int talk() {
        int all = 0;
        for (int head : so.heads) all |= head;
        for (int many = 0; many <= so.heads.length; many++) {
            for (int set = 0; set < 1 << so.heads.length; set++) {
                int together = 0;
                for (int g = 0; g < so.heads.length; g++) if ((set >> g & 1) == 1) together |= so.heads[g];
                if (Integer.bitCount(set) == many && together == all) return set;
            }
        }
        throw new IllegalStateException();
    }

    int crossing(int x, int what) {
        if (!isCrossing(x)) return UNKNOWN;
        if (what < 0 || what > 4) return OUTSIDE;
        return what == 4 ? (so.walls[x] ? 1 : 0) : told.rows.get(x)[what];
    }

    private boolean isCrossing(int x) {
        return x >= 0 && x < told.n;
    }

    private boolean isGuide(int g) {
        return g >= 0 && g < told.guides.size();
    }

    private boolean isClient(int e) {
        return e >= 0 && e < told.clients.size();
    }

    private boolean isSet(int set) {
        return set >= 0 && set < 1 << told.n;
    }

    private int after(int x, int turn) {
        return told.rows.get(x)[1 + turn];
    }

    private boolean canLeadInto(int known, int x) {
        return (known >> x & 1) == 1 && !so.walls[x];
    }

    int guide(int g, int what) {
        if (!isGuide(g)) return UNKNOWN;
        if (what < 0 || what > 4) return OUTSIDE;
        int reach = 0;
        for (int x = 0; x < told.n; x++) if (wayOf(so.knows[g], so.stands[g], x) != null) reach += 1 << x;
        return new int[] {so.stands[g], told.guides.get(g)[1], so.knows[g], so.heads[g], reach}[what];
    }

    /** The turns of the way of one who knows a set, or null. */
    private String wayOf(int known, int a, int b) {
        List<String> ways = List.of("");
        for (int streets = 0; streets < 8; streets++) {
            List<String> longer = new ArrayList<>();
            for (String way : ways) {
                if (ledBy(known, a, way) == b) return way;
                for (int turn = 0; turn < 3; turn++) if (ledBy(known, a, way + turn) >= 0) longer.add(way + turn);
            }
            ways = longer;
        }
        return null;
    }

    private int ledBy(int known, int a, String turns) {
        int x = a;
        for (char turn : turns.toCharArray()) {
            x = after(x, turn - '0');
            if (!canLeadInto(known, x)) return NONE;
        }
        return x;
    }

    int client(int e, int what) {
        if (!isClient(e)) return UNKNOWN;
        if (what < 0 || what > 2) return OUTSIDE;
        return what == 2 ? (so.home[e] ? 1 : 0) : told.clients.get(e)[what];
    }

    private int nightsRefused(int n) {
        if (n < 1 || n > 60) return OUTSIDE;
        if (told.n == 0) return NOT;
        return so.nights > 9000 ? FULL : 0;
    }

    private void remember() {
        past.addLast(so.copy());
        if (past.size() > 16) past.removeFirst();
    }

    int night(int n) {
        if (nightsRefused(n) != 0) return nightsRefused(n);
        remember();
        for (int i = 0; i < n; i++) passNight();
        return so.nights;
    }

    private void passNight() {
        Arrays.fill(so.home, false);
        so.nights++;
    }

    private String wayFor(int g, int e) {
        return so.home[e] ? null : wayOf(so.knows[g], told.clients.get(e)[0], told.clients.get(e)[1]);
    }

    private int price(int g, int streets) {
        int whole = told.guides.get(g)[1] * streets;
        return moon() < 5 ? whole : whole / 2;
    }

    int hire(int g, int e) {
        if (!isGuide(g) || !isClient(e)) return UNKNOWN;
        if (wayFor(g, e) == null) return NOT;
        remember();
        return hired(g, e);
    }

    private int hired(int g, int e) {
        int price = price(g, wayFor(g, e).length());
        so.paid = Math.min(999999, so.paid + price);
        so.home[e] = true;
        so.stands[g] = told.clients.get(e)[1];
        so.heads[g] |= 1 << e;
        return price;
    }

    int nowhere(int g, int n) {
        if (!isGuide(g)) return UNKNOWN;
        if (n < 1 || n > 20) return OUTSIDE;
        remember();
        for (int left = n; left > 0 && canLeadInto(so.knows[g], after(so.stands[g], 0)); left--) {
            so.stands[g] = after(so.stands[g], 0);
        }
        return so.stands[g];
    }

    int wall(int x, boolean is) {
        if (!isCrossing(x)) return UNKNOWN;
        remember();
        boolean was = so.walls[x];
        so.walls[x] = is;
        return was ? 1 : 0;
    }

    int learn(int g, int x) {
        if (!isGuide(g) || !isCrossing(x)) return UNKNOWN;
        if ((so.knows[g] >> x & 1) == 1) return NOT;
        remember();
        return so.knows[g] += 1 << x;
    }

    int forget(int g) {
        if (!isGuide(g)) return UNKNOWN;
        remember();
        int had = so.heads[g];
        so.heads[g] = 0;
        return had;
    }

    private int draw(int n) {
        seed = (seed * 1103515245L + 12345L) % 2147483648L;
        return (int) (seed / 65536 % Math.max(1, n));
    }

    int drift(int n) {
        if (nightsRefused(n) != 0) return nightsRefused(n);
        remember();
        for (int i = 0; i < n; i++) {
            for (int k = 0; k < 3 && !told.guides.isEmpty() && !told.clients.isEmpty(); k++) {
                int g = draw(told.guides.size());
                int e = draw(told.clients.size());
                if (wayFor(g, e) != null) hired(g, e);
            }
            if (draw(6) == 0) {
                int x = draw(told.n);
                so.walls[x] = !so.walls[x];
            }
            passNight();
        }
        return so.paid;
    }

    int undo() {
        if (past.isEmpty()) return NOT;
        so = past.removeLast();
        return past.size();
    }

    int leads(int g, int e, int what) {
        if (!isGuide(g) || !isClient(e)) return UNKNOWN;
        if (what < 0 || what > 2) return OUTSIDE;
        String way = wayFor(g, e);
        if (way == null) return NONE;
        if (what == 2) return way.isEmpty() ? NONE : way.charAt(0) - '0';
        return what == 0 ? way.length() : price(g, way.length());
    }

    int way(int g, int a, int b) {
        if (!isGuide(g) || !isCrossing(a) || !isCrossing(b)) return UNKNOWN;
        return lengthOf(wayOf(so.knows[g], a, b));
    }

    private static int lengthOf(String way) {
        return way == null ? NONE : way.length();
    }

    /** The best of all matchings: how many, how long, what it costs, then the guide of each client (99: none). */
    private int[] best;
    private int[][] lengths;

    int match(int e) {
        if (e < -3 || e >= told.clients.size()) return UNKNOWN;
        lengths = new int[told.clients.size()][told.guides.size()];
        for (int k = 0; k < lengths.length; k++) {
            for (int g = 0; g < lengths[k].length; g++) lengths[k][g] = lengthOf(wayFor(g, k));
        }
        best = null;
        int[] row = new int[lengths.length];
        matchFrom(0, row, 0);
        if (e == -1) return best[0];
        if (e < -1) return best[-1 - e];
        return best[3 + e] == 99 ? NONE : best[3 + e];
    }

    private void matchFrom(int e, int[] row, int taken) {
        if (e == row.length) {
            weigh(row);
            return;
        }
        for (int g = 0; g < told.guides.size(); g++) {
            if ((taken >> g & 1) == 0 && lengths[e][g] != NONE) {
                row[e] = g;
                matchFrom(e + 1, row, taken | 1 << g);
            }
        }
        row[e] = 99;
        matchFrom(e + 1, row, taken);
    }

    private void weigh(int[] row) {
        int[] weight = new int[3 + row.length];
        for (int e = 0; e < row.length; e++) {
            weight[3 + e] = row[e];
            if (row[e] != 99) {
                weight[0]++;
                weight[1] = Math.max(weight[1], lengths[e][row[e]]);
                weight[2] += price(row[e], lengths[e][row[e]]);
            }
        }
        if (best == null || isBetter(weight, best)) best = weight;
    }

    private static boolean isBetter(int[] weight, int[] other) {
        if (weight[0] != other[0]) return weight[0] > other[0];
        for (int i = 1; i < weight.length; i++) if (weight[i] != other[i]) return weight[i] < other[i];
        return false;
    }

    int fromWherever(int set, int x, int what) {
        if (!isSet(set) || !isCrossing(x)) return UNKNOWN;
        return what < 0 || what > 1 ? OUTSIDE : firstRow(set, x, what);
    }

    int meet(int set, int what) {
        if (!isSet(set)) return UNKNOWN;
        return what < 0 || what > 1 ? OUTSIDE : firstRow(set, NONE, what);
    }

    /** Every row of turns is gone from every crossing of the set, the shorter and lesser rows first. */
    private int firstRow(int set, int x, int what) {
        for (int many = 0, rows = 1; many <= 9; many++, rows *= 3) {
            for (int row = 0; row < rows; row++) {
                int figures = 0;
                for (int i = 0, rest = row, ten = 1; i < many; i++, rest /= 3, ten *= 10) figures += (rest % 3 + 1) * ten;
                if (leadsTogether(set, x, figures)) return what == 0 ? many : figures;
            }
        }
        return NONE;
    }

    private boolean leadsTogether(int set, int goal, int figures) {
        int met = goal;
        for (int a = 0; a < told.n; a++) {
            if ((set >> a & 1) == 0) continue;
            int x = a;
            for (char figure : (figures == 0 ? "" : "" + figures).toCharArray()) x = after(x, figure - '1');
            if (met == NONE) met = x;
            if (met != x) return false;
        }
        return true;
    }

    int ring(int g) {
        if (!isGuide(g)) return UNKNOWN;
        int least = NONE;
        for (int turn = 0; turn < 3; turn++) {
            int x = after(so.stands[g], turn);
            int back = canLeadInto(so.knows[g], x) ? lengthOf(wayOf(so.knows[g], x, so.stands[g])) : NONE;
            if (back != NONE && (least == NONE || back + 1 < least)) least = back + 1;
        }
        return least;
    }

    int allGoBy(int g, int a, int b) {
        if (!isGuide(g) || !isCrossing(a) || !isCrossing(b)) return UNKNOWN;
        int set = 0;
        for (int x = 0; x < told.n; x++) {
            if (x == a || x == b || so.walls[x] || wayOf(so.knows[g], a, b) == null) continue;
            so.walls[x] = true;
            if (wayOf(so.knows[g], a, b) == null) set += 1 << x;
            so.walls[x] = false;
        }
        return set;
    }

    int pose(int g, int set) {
        if (!isGuide(g) || !isSet(set)) return UNKNOWN;
        int pairs = 0;
        for (int a = 0; a < told.n; a++) {
            for (int b = 0; b < told.n; b++) {
                if (a == b || (so.knows[g] >> a & 1) == 0 || (so.knows[g] >> b & 1) == 0) continue;
                int his = lengthOf(wayOf(so.knows[g], a, b));
                int posed = lengthOf(wayOf(set, a, b));
                if (his != NONE && (posed == NONE || posed > his)) pairs++;
            }
        }
        return pairs;
    }

    int clouds(int n, int q) {
        if (n < 0 || n > 60 || q < 0 || q > 100) return OUTSIDE;
        long odds = 1000000000;
        for (int i = 0; i < n; i++) odds = (odds * q - odds * q % 100) / 100;
        return (int) odds;
    }

    int begin(int sound) {
        if (sound < 0 || sound > 5) return OUTSIDE;
        heard = new ArrayList<>(List.of(new int[] {NONE, sound}));
        return here(false);
    }

    int hear(int turn, int sound) {
        if (turn < 0 || turn > 2 || sound < 0 || sound > 5) return OUTSIDE;
        if (heard == null) return NOT;
        if (heard.size() == 9) return FULL;
        heard.add(new int[] {turn, sound});
        return here(false);
    }

    /** The crossings where one can be, or can have begun, by the whole row that was heard. */
    private int here(boolean begun) {
        int set = 0;
        for (int a = 0; a < told.n && heard != null; a++) {
            int x = a;
            boolean fits = true;
            for (int[] step : heard) {
                if (step[0] != NONE) x = after(x, step[0]);
                fits &= told.rows.get(x)[0] == step[1];
            }
            if (fits) set |= 1 << (begun ? a : x);
        }
        return set;
    }

    int began() {
        return here(true);
    }

    int listen() {
        int best = NONE;
        int least = Integer.bitCount(here(false));
        for (int turn = 0; turn < 3; turn++) {
            int[] parts = new int[6];
            for (int x = 0; x < told.n; x++) if ((here(false) >> x & 1) == 1) parts[told.rows.get(after(x, turn))[0]]++;
            int greatest = Arrays.stream(parts).max().getAsInt();
            if (greatest < least) {
                least = greatest;
                best = turn;
            }
        }
        return best;
    }

    int write(int g, int x) {
        if (!isGuide(g) || !isCrossing(x)) return UNKNOWN;
        if (book.size() == 15) return FULL;
        book.add(new int[] {g, x});
        return book.size();
    }

    int tear() {
        int had = book.size();
        book.clear();
        heard = null;
        return had;
    }

    int judge() {
        for (int i = 0; i < book.size(); i++) if (so.stands[book.get(i)[0]] != book.get(i)[1]) return i;
        return NONE;
    }

    int seed(int v) {
        if (v < 0) return OUTSIDE;
        int was = (int) seed;
        seed = v;
        return was;
    }

    int keep(int i) {
        if (i != 0 && i != 1) return UNKNOWN;
        images[i] = so.copy();
        imageSeeds[i] = seed;
        past.clear();
        return 1;
    }

    int goBack(int i) {
        if (i != 0 && i != 1) return UNKNOWN;
        if (images[i] == null) return NOT;
        so = images[i].copy();
        seed = imageSeeds[i];
        past = new ArrayDeque<>();
        return 1;
    }
}
