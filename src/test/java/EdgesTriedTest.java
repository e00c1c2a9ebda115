/** Promises 17 to 25: each sentence of the document that names an edge, in the document's order. */
public final class EdgesTriedTest {
    private static final int NONE = -1, UNKNOWN = -1000000001, OUTSIDE = -1000000002;
    private static final int LEAST = Edge.LEAST, MOST = Edge.MOST;
    private static final int[] FAR = {LEAST, -1000000001, -2, -1, 256, 65536, MOST};
    /** Eight crossings in a row by turn 0, the last leads to itself; by turn 1 one goes back to 0, by turn 2 one stays. */
    private static final String ROW = "n8;c0 1 0 0;c0 2 0 1;c0 3 0 2;c0 4 0 3;c0 5 0 4;c0 6 0 5;c0 7 0 6;c0 7 0 7;";
    /** From 0 to 4 by 1 in two streets, by 2 and 3 in three. */
    private static final String ROUND = "n5;c0 1 2 0;c0 4 4 4;c0 3 3 3;c0 4 4 4;";
    /** Turn 0 goes a ring, turn 1 leads 0 to 1 and leaves the others, turn 2 leaves all. */
    private static final String SLOW = "n5;c0 1 1 0;c0 2 1 1;c0 3 2 2;c0 4 3 3;c0 0 4 4;";

    public static void main(String[] args) {
        leads();
        leadsOnWays();
        way();
        match();
        matchCounts();
        matchPrefers();
        fromWherever();
        fromWhereverUpToNine();
        meet();
        ring();
        allGoBy();
        pose();
        clouds();
        Check.end();
    }

    private static void leads() {
        Edge.says(17, "LEADS: what = 0 how many STREETS, 1 what it would cost, 2 the first TURN; NONE. UNKNOWN, OUTSIDE.");
        for (int what = 0; what < 3; what++) {
            int k = what;
            Edge.changesNothing("leads(0, 0, " + k + ") of who is home", NONE, x -> x.leads(0, 0, k));
            Edge.changesNothing("leads(1, 1, " + k + "): walls are in his way", NONE, x -> x.leads(1, 1, k));
            Edge.changesNothing("leads(3, 1, " + k + ")", UNKNOWN, x -> x.leads(3, 1, k));
            Edge.changesNothing("leads(0, 2, " + k + ")", UNKNOWN, x -> x.leads(0, 2, k));
        }
        for (int client = 0; client < 2; client++) {
            int e = client;
            Edge.changesNothing("leads(0, " + e + ", -1)", OUTSIDE, x -> x.leads(0, e, -1));
            Edge.changesNothing("leads(0, " + e + ", 3)", OUTSIDE, x -> x.leads(0, e, 3));
        }
        Edge.changesNothing("leads(3, 1, 3)", UNKNOWN, x -> x.leads(3, 1, 3));
        Edge.changesNothing("leads(0, 2, -1)", UNKNOWN, x -> x.leads(0, 2, -1));
        for (int far : FAR) {
            Edge.changesNothing("leads(" + far + ", 1, 0)", UNKNOWN, x -> x.leads(far, 1, 0));
            Edge.changesNothing("leads(0, " + far + ", 0)", UNKNOWN, x -> x.leads(0, far, 0));
            Edge.changesNothing("leads(0, 1, " + far + ")", OUTSIDE, x -> x.leads(0, 1, far));
            Edge.changesNothing("leads(" + far + ", " + far + ", " + far + ")", UNKNOWN, x -> x.leads(far, far, far));
        }
    }

    private static void dueLeads(BlindGuides x, int g, int e, int streets, int price, int turn) {
        Edge.due("leads(" + g + ", " + e + ", 0)", x.leads(g, e, 0), streets);
        Edge.due("leads(" + g + ", " + e + ", 1)", x.leads(g, e, 1), price);
        Edge.due("leads(" + g + ", " + e + ", 2)", x.leads(g, e, 2), turn);
    }

    private static void leadsOnWays() {
        Edge.says(17, "LEADS: of a GUIDE and a CLIENT, as HIRED now: how many STREETS; what it would cost; the first TURN (NONE: it is no STREET); "
            + "NONE: he cannot, or the CLIENT is HOME.");
        BlindGuides x = Check.cityOf("n5;c0 1 2 3;c0 4 4 4;c0 4 4 4;c0 4 4 4;g4 7 31;g4 3 21;g0 3 25;e0 4;e0 0;e0 3;e4 0;m4,5;");
        // of like ways the first, so far as he knows them
        dueLeads(x, 0, 0, 2, 14, 0);
        dueLeads(x, 1, 0, 2, 6, 1);
        dueLeads(x, 2, 0, 2, 6, 2);
        for (int g = 0; g < 3; g++) {
            dueLeads(x, g, 1, 0, 0, NONE);
            dueLeads(x, g, 3, NONE, NONE, NONE);
        }
        dueLeads(x, 0, 2, 1, 7, 2);
        dueLeads(x, 1, 2, NONE, NONE, NONE);
        dueLeads(x, 2, 2, 1, 3, 2);
        x.night(1);
        dueLeads(x, 0, 0, 2, 7, 0);
        dueLeads(x, 0, 2, 1, 3, 2);
        dueLeads(x, 2, 2, 1, 1, 2);
        x.wall(1, true);
        dueLeads(x, 0, 0, 2, 7, 1);
        x.wall(2, true);
        dueLeads(x, 0, 0, 2, 7, 2);
        x.wall(3, true);
        dueLeads(x, 0, 0, NONE, NONE, NONE);
        x.wall(0, true);
        dueLeads(x, 0, 1, 0, 0, NONE);
        x.hire(0, 1);
        dueLeads(x, 1, 1, NONE, NONE, NONE);
        Edge.says(17, "of like ones the first (TURN by TURN the lesser)");
        BlindGuides alike = Check.cityOf("n3;c0 0 1 1;c0 1 2 2;c0 0 0 2;g0 1 7;e0 2;e2 0;");
        dueLeads(alike, 0, 0, 2, 2, 1);
        dueLeads(alike, 0, 1, 1, 1, 0);
        // the lesser turn leads by more streets
        dueLeads(Check.cityOf(ROUND + "g0 1 31;g0 1 30;g0 1 29;e0 3;"), 2, 0, 2, 2, 1);
        dueLeads(Check.cityOf("n4;c0 1 1 2;c0 2 2 2;c0 3 3 3;g0 1 15;e0 3;"), 0, 0, 2, 2, 2);
    }

    private static void way() {
        Edge.says(18, "WAY of a GUIDE: how many STREETS from one CROSSING to another (0: the same one); NONE. UNKNOWN.");
        Edge.changesNothing("way(0, 1, 0)", NONE, x -> x.way(0, 1, 0));
        Edge.changesNothing("way(0, 2, 1): from a wall", 2, x -> x.way(0, 2, 1));
        Edge.changesNothing("way(0, 2, 0): from a wall", 1, x -> x.way(0, 2, 0));
        Edge.changesNothing("way(3, 0, 0)", UNKNOWN, x -> x.way(3, 0, 0));
        Edge.changesNothing("way(0, 4, 0)", UNKNOWN, x -> x.way(0, 4, 0));
        Edge.changesNothing("way(0, 0, 4)", UNKNOWN, x -> x.way(0, 0, 4));
        Edge.changesNothing("way(0, 4, 4)", UNKNOWN, x -> x.way(0, 4, 4));
        for (int far : FAR) {
            Edge.changesNothing("way(" + far + ", 0, 0)", UNKNOWN, x -> x.way(far, 0, 0));
            Edge.changesNothing("way(0, " + far + ", 0)", UNKNOWN, x -> x.way(0, far, 0));
            Edge.changesNothing("way(0, 0, " + far + ")", UNKNOWN, x -> x.way(0, 0, far));
            Edge.changesNothing("way(0, " + far + ", " + far + ")", UNKNOWN, x -> x.way(0, far, far));
        }
        BlindGuides row = Check.cityOf(ROW + "g0 1 255;g0 1 254;g7 1 1;");
        for (int a = 0; a < 8; a++) {
            for (int b = 0; b < 8; b++) {
                Edge.due("way(0, " + a + ", " + b + ")", row.way(0, a, b), b < a ? 1 + b : b - a);
                Edge.due("way(1, " + a + ", " + b + ")", row.way(1, a, b), b < a ? NONE : b - a);
                Edge.due("way(2, " + a + ", " + b + ")", row.way(2, a, b), a == b ? 0 : b == 0 ? 1 : NONE);
            }
        }
        for (int k = 0; k < 8; k++) {
            row.wall(k, true);
        }
        for (int k = 0; k < 8; k++) {
            Edge.due("way(0, " + k + ", " + k + ") with walls all about", row.way(0, k, k), 0);
            Edge.due("way(0, " + k + ", " + (k + 1) % 8 + ") with walls all about", row.way(0, k, (k + 1) % 8), NONE);
        }
        BlindGuides last = Check.cityOf("n3;c0 0 0 1;c0 1 1 2;c0 2 2 0;g0 1 7;");
        Edge.due("way(0, 0, 1) by turn 2 alone", last.way(0, 0, 1), 1);
        Edge.due("way(0, 0, 2) by turn 2 alone", last.way(0, 0, 2), 2);
    }

    private static void dueMatch(String text, int many, int longest, int cost, int... guides) {
        dueMatch(Check.cityOf(text), text, many, longest, cost, guides);
    }

    private static void dueMatch(BlindGuides x, String of, int many, int longest, int cost, int... guides) {
        Edge.due("match(-1) of " + of, x.match(-1), many);
        Edge.due("match(-2) of " + of, x.match(-2), longest);
        Edge.due("match(-3) of " + of, x.match(-3), cost);
        for (int e = 0; e < guides.length; e++) {
            Edge.due("match(" + e + ") of " + of, x.match(e), guides[e]);
        }
        Edge.due("match(" + guides.length + ") of " + of, x.match(guides.length), UNKNOWN);
    }

    private static void match() {
        Edge.says(19, "MATCH: e = NONE how many, -2 how long (0: none), -3 what it costs, else the GUIDE of a CLIENT; NONE. UNKNOWN.");
        int[] due = {0, 0, 0, NONE, NONE};
        int[] asked = {-3, -2, -1, 0, 1};
        for (int i = 0; i < 5; i++) {
            int e = asked[i];
            Edge.changesNothing("match(" + e + ")", due[i], x -> x.match(e));
        }
        for (int e : new int[] {LEAST, UNKNOWN, -5, -4, 2, 6, 256, MOST}) {
            Edge.changesNothing("match(" + e + ")", UNKNOWN, x -> x.match(e));
        }
        dueMatch(new BlindGuides(), "no city", 0, 0, 0);
        dueMatch("n1;", 0, 0, 0);
        dueMatch("n1;g0 9 1;", 0, 0, 0);
        dueMatch("n1;e0 0;e0 0;", 0, 0, 0, NONE, NONE);
        dueMatch("n2;c0 0 0 0;c0 0 0 0;g0 9 1;e0 1;e1 0;e0 1;", 1, 1, 9, NONE, 0, NONE);
        Edge.says(19, "MATCH: each CLIENT who is not HOME gets a GUIDE who can lead (no GUIDE is of two), or none");
        BlindGuides x = Check.cityOf("n2;c0 1 1 1;g0 3 3;g0 5 3;e0 1;e0 1;e0 1;");
        dueMatch(x, "two guides", 2, 1, 8, 0, 1, NONE);
        x.hire(1, 0);
        dueMatch(x, "two guides, client 0 is home", 2, 1, 8, NONE, 0, 1);
        x.hire(1, 1);
        dueMatch(x, "two guides, client 2 is not home", 1, 1, 3, NONE, NONE, 0);
        x.hire(1, 2);
        dueMatch(x, "two guides, all are home", 0, 0, 0, NONE, NONE, NONE);
        x.night(1);
        x.wall(1, true);
        dueMatch(x, "two guides who cannot", 0, 0, 0, NONE, NONE, NONE);
        // a city of fewer guides and clients behind one of more
        Check.feed(x, "n2;c0 1 1 1;g0 9 1;e0 1;");
        x.city();
        dueMatch(x, "a guide who cannot", 0, 0, 0, NONE);
        Check.feed(x, "n2;c0 1 1 1;g0 9 3;e0 1;");
        x.city();
        dueMatch(x, "a guide who can", 1, 1, 9, 0);
    }

    private static void matchCounts() {
        Edge.says(19, "how many; how long; what it costs; the GUIDE of a CLIENT; NONE.");
        String six = "n1;g0 9 1;g0 9 1;g0 9 1;g0 9 1;g0 9 1;g0 9 1;e0 0;e0 0;e0 0;e0 0;e0 0;e0 0;";
        dueMatch(six, 6, 0, 0, 0, 1, 2, 3, 4, 5);
        // client e goes to e + 1; by who knows what there is but one guide for each, from the last on
        String one = "n7;c0 1 2 3;c0 4 5 6;g0 1 66;g0 2 34;g0 3 18;g0 4 8;g0 5 4;g0 6 2;e0 1;e0 2;e0 3;e0 4;e0 5;e0 6;";
        dueMatch(one, 6, 2, 27, 5, 4, 3, 2, 1, 0);
        dueMatch("n2;c0 1 1 1;g0 9 3;e0 1;e0 1;e0 1;e0 1;e0 1;e0 1;", 1, 1, 9, 0, NONE, NONE, NONE, NONE, NONE);
        dueMatch("n2;c0 1 1 1;g0 9 3;g0 8 3;g0 7 3;g0 6 3;g0 5 3;g0 4 3;e0 1;", 1, 1, 4, 5);
        // the longest and dearest of all: seven streets each
        StringBuilder far = new StringBuilder("n8;c0 1 1 1;c0 2 2 2;c0 3 3 3;c0 4 4 4;c0 5 5 5;c0 6 6 6;c0 7 7 7;");
        for (int g = 0; g < 6; g++) {
            far.append("g0 99 255;");
        }
        for (int e = 0; e < 6; e++) {
            far.append("e0 7;");
        }
        dueMatch(far.toString(), 6, 7, 6 * 7 * 99, 0, 1, 2, 3, 4, 5);
        dueMatch(far + "m5;", 6, 7, 6 * 346, 0, 1, 2, 3, 4, 5);
    }

    private static void matchPrefers() {
        Edge.says(19, "the most CLIENTS; of like ones those by which the longest WAY is shortest; of like ones those that cost least together; "
            + "of like ones the first (CLIENT by CLIENT the lesser GUIDE, none last)");
        // from 0 to 3 by 4 in two streets, by 1 and 2 in three
        String twoWays = "n5;c0 1 4 0;c0 2 2 2;c0 3 3 3;c0 3 3 3;c0 3 3 3;";
        dueMatch(twoWays + "g0 1 24;g0 9 14;e0 3;e0 4;", 2, 3, 28, 1, 0);
        dueMatch(twoWays + "g0 0 14;g0 99 24;e0 3;", 1, 2, 198, 1);
        dueMatch(twoWays + "g0 9 24;g0 8 24;g0 7 14;e0 3;", 1, 2, 16, 1);
        dueMatch(twoWays + "g0 8 24;g0 7 14;g0 8 24;e0 3;", 1, 2, 16, 0);
        // none comes last, but the shortest way is ahead of that
        dueMatch("n2;c0 1 1 1;g0 0 3;e0 1;e0 0;", 1, 0, 0, NONE, 0);
        dueMatch("n2;c0 1 1 1;g0 0 3;e0 1;e0 1;", 1, 1, 0, 0, NONE);
    }

    private static void fromWherever() {
        Edge.says(20, "FROM WHEREVER: what = 0 how many, 1 the TURNS; NONE. UNKNOWN, OUTSIDE.");
        Edge.changesNothing("fromWherever(1, 3, 0)", 2, x -> x.fromWherever(1, 3, 0));
        Edge.changesNothing("fromWherever(1, 3, 1)", 12, x -> x.fromWherever(1, 3, 1));
        Edge.changesNothing("fromWherever(8, 0, 0)", NONE, x -> x.fromWherever(8, 0, 0));
        Edge.changesNothing("fromWherever(8, 0, 1)", NONE, x -> x.fromWherever(8, 0, 1));
        Edge.changesNothing("fromWherever(16, 0, 0)", UNKNOWN, x -> x.fromWherever(16, 0, 0));
        Edge.changesNothing("fromWherever(17, 0, 0)", UNKNOWN, x -> x.fromWherever(17, 0, 0));
        Edge.changesNothing("fromWherever(1, 4, 0)", UNKNOWN, x -> x.fromWherever(1, 4, 0));
        Edge.changesNothing("fromWherever(0, 4, 0)", UNKNOWN, x -> x.fromWherever(0, 4, 0));
        Edge.changesNothing("fromWherever(1, 0, 2)", OUTSIDE, x -> x.fromWherever(1, 0, 2));
        Edge.changesNothing("fromWherever(0, 0, 2)", OUTSIDE, x -> x.fromWherever(0, 0, 2));
        Edge.changesNothing("fromWherever(16, 0, 2)", UNKNOWN, x -> x.fromWherever(16, 0, 2));
        Edge.changesNothing("fromWherever(1, 4, -1)", UNKNOWN, x -> x.fromWherever(1, 4, -1));
        for (int far : FAR) {
            Edge.changesNothing("fromWherever(" + far + ", 0, 0)", UNKNOWN, x -> x.fromWherever(far, 0, 0));
            Edge.changesNothing("fromWherever(1, " + far + ", 0)", UNKNOWN, x -> x.fromWherever(1, far, 0));
            Edge.changesNothing("fromWherever(1, 0, " + far + ")", OUTSIDE, x -> x.fromWherever(1, 0, far));
        }
        for (int n = 1; n <= 8; n++) {
            BlindGuides x = Check.cityOf("n" + n + ";");
            int all = (1 << n) - 1;
            Edge.due("fromWherever(" + all + ", 0, 0) of " + n, x.fromWherever(all, 0, 0), n == 1 ? 0 : NONE);
            Edge.due("fromWherever(" + (all + 1) + ", 0, 0) of " + n, x.fromWherever(all + 1, 0, 0), UNKNOWN);
            Edge.due("fromWherever(" + LEAST + ", 0, 0) of " + n, x.fromWherever(LEAST, 0, 0), UNKNOWN);
        }
        Edge.says(20, "from each CROSSING of a SET (of none: none is needed; WALLS, what GUIDES know are no matter)");
        BlindGuides x = Check.cityOf(ROW);
        for (int k = 0; k < 8; k++) {
            x.wall(k, true);
        }
        for (int k = 0; k < 8; k++) {
            Edge.due("fromWherever(0, " + k + ", 0)", x.fromWherever(0, k, 0), 0);
            Edge.due("fromWherever(0, " + k + ", 1)", x.fromWherever(0, k, 1), 0);
            Edge.due("fromWherever(255, " + k + ", 0)", x.fromWherever(255, k, 0), k < 7 ? 1 + k : 7);
        }
        Edge.due("fromWherever(255, 7, 1)", x.fromWherever(255, 7, 1), 1111111);
        Edge.due("fromWherever(255, 6, 1)", x.fromWherever(255, 6, 1), 2111111);
    }

    private static void fromWhereverUpToNine() {
        Edge.says(20, "the fewest TURNS, one behind the other (9 at most)");
        BlindGuides x = Check.cityOf(SLOW);
        Edge.due("nine", x.fromWherever(20, 1, 0), 9);
        Edge.due("nine", x.fromWherever(20, 1, 1), 111211112);
        Edge.due("nine", x.fromWherever(18, 3, 1), 121111211);
        Edge.due("ten", x.fromWherever(20, 2, 0), NONE);
        Edge.due("ten", x.fromWherever(20, 2, 1), NONE);
        Edge.due("ten", x.fromWherever(5, 0, 0), NONE);
        Edge.due("sixteen", x.fromWherever(31, 1, 0), NONE);
        Edge.says(20, "how many; the TURNS (figures, each 1 more than the TURN; of like ones the least number; 0: none); NONE.");
        BlindGuides alike = Check.cityOf("n5;c0 1 1 2;c0 1 1 3;c0 3 1 1;c0 4 4 4;c0 0 1 2;");
        Edge.due("by turn 2 alone", alike.fromWherever(1, 2, 1), 3);
        Edge.due("by turn 0 or 1", alike.fromWherever(1, 1, 1), 1);
        Edge.due("by 13, 23 or 31", alike.fromWherever(1, 3, 1), 13);
        Edge.due("by 131, 132 and others", alike.fromWherever(1, 4, 1), 131);
        Edge.due("none", alike.fromWherever(4, 2, 0), 0);
        Edge.due("none", alike.fromWherever(4, 2, 1), 0);
        // 333333333, the greatest of all
        BlindGuides greatest = Check.cityOf("n8;c0 0 0 1;c0 1 1 2;c0 2 2 3;c0 3 3 4;c0 4 4 5;c0 5 5 6;c0 6 6 7;");
        Edge.due("by turn 2 alone", greatest.fromWherever(255, 7, 1), 3333333);
    }

    private static void meet() {
        Edge.says(21, "MEET: what = 0 how many, 1 the TURNS; NONE. UNKNOWN, OUTSIDE.");
        Edge.changesNothing("meet(1, 0)", 0, x -> x.meet(1, 0));
        Edge.changesNothing("meet(1, 1)", 0, x -> x.meet(1, 1));
        Edge.changesNothing("meet(15, 0)", 3, x -> x.meet(15, 0));
        Edge.changesNothing("meet(15, 1)", 111, x -> x.meet(15, 1));
        Edge.changesNothing("meet(16, 0)", UNKNOWN, x -> x.meet(16, 0));
        Edge.changesNothing("meet(17, 1)", UNKNOWN, x -> x.meet(17, 1));
        Edge.changesNothing("meet(16, 2)", UNKNOWN, x -> x.meet(16, 2));
        Edge.changesNothing("meet(-1, -1)", UNKNOWN, x -> x.meet(-1, -1));
        Edge.changesNothing("meet(1, 2)", OUTSIDE, x -> x.meet(1, 2));
        Edge.changesNothing("meet(0, 2)", OUTSIDE, x -> x.meet(0, 2));
        for (int far : FAR) {
            Edge.changesNothing("meet(" + far + ", 0)", UNKNOWN, x -> x.meet(far, 0));
            Edge.changesNothing("meet(1, " + far + ")", OUTSIDE, x -> x.meet(1, far));
        }
        BlindGuides none = new BlindGuides();
        Edge.due("meet(0, 0) of no city", none.meet(0, 0), 0);
        Edge.due("meet(0, 1) of no city", none.meet(0, 1), 0);
        Edge.due("meet(0, 2) of no city", none.meet(0, 2), OUTSIDE);
        Edge.due("meet(1, 0) of no city", none.meet(1, 0), UNKNOWN);
        Edge.due("meet(LEAST, 0) of no city", none.meet(LEAST, 0), UNKNOWN);
        Edge.says(21, "MEET: likewise, but to any one and the same CROSSING.");
        BlindGuides x = Check.cityOf(SLOW);
        Edge.due("meet(0, 0): of none none is needed", x.meet(0, 0), 0);
        Edge.due("meet(0, 1): of none none is needed", x.meet(0, 1), 0);
        for (int k = 0; k < 5; k++) {
            Edge.due("meet(" + (1 << k) + ", 0): of one", x.meet(1 << k, 0), 0);
        }
        Edge.due("nine", x.meet(20, 0), 9);
        Edge.due("nine", x.meet(28, 1), 111211112);
        Edge.due("ten", x.meet(10, 0), NONE);
        Edge.due("ten", x.meet(14, 1), NONE);
        Edge.due("eleven", x.meet(11, 0), NONE);
        BlindGuides apart = Check.cityOf("n8;");
        Edge.due("never", apart.meet(255, 0), NONE);
        Edge.due("never", apart.meet(3, 1), NONE);
        // of like ones the least: 1 and 2 meet at 0 by turn 1, at 3 by turn 2
        BlindGuides alike = Check.cityOf("n4;c0 0 0 0;c0 1 0 3;c0 2 0 3;c0 3 3 3;");
        Edge.due("meet(6, 1)", alike.meet(6, 1), 2);
        x.wall(1, true);
        x.wall(0, true);
        Edge.due("walls are no matter", x.meet(20, 0), 9);
    }

    private static void ring() {
        Edge.says(22, "RING; NONE. UNKNOWN.");
        Edge.changesNothing("ring(1)", 1, x -> x.ring(1));
        Edge.changesNothing("ring(0): a wall where he stands", NONE, x -> x.ring(0));
        Edge.changesNothing("ring(3)", UNKNOWN, x -> x.ring(3));
        for (int far : FAR) {
            Edge.changesNothing("ring(" + far + ")", UNKNOWN, x -> x.ring(far));
        }
        Edge.says(22, "RING: the fewest STREETS (1 on) by which a GUIDE can lead from where he stands back there; NONE.");
        for (int n = 1; n <= 8; n++) {
            for (int turn = 0; turn < 3; turn++) {
                BlindGuides x = Check.cityOf(ringOf(n, turn));
                Edge.due("ring(0) of " + n + " by turn " + turn, x.ring(0), n);
                Edge.due("ring(1): he does not know where he stands", x.ring(1), n == 1 ? 1 : NONE);
                x.wall(n - 1, true);
                Edge.due("ring(0) with a wall where he stands", x.ring(0), NONE);
                x.wall(n - 1, false);
                x.wall(0, true);
                Edge.due("ring(0) with a wall in the way", x.ring(0), NONE);
            }
        }
        // from 0 one comes to the ring of 1 and 2, never back
        BlindGuides away = Check.cityOf("n4;c0 1 1 1;c0 2 2 2;c0 1 3 1;c0 2 0 1;g0 1 7;g0 1 15;g0 1 14;g1 1 15;");
        Edge.due("ring(0): a ring, but not where he stands", away.ring(0), NONE);
        Edge.due("ring(1)", away.ring(1), 4);
        Edge.due("ring(2): he does not know where he stands", away.ring(2), NONE);
        Edge.due("ring(3): the fewest", away.ring(3), 2);
    }

    /** A ring of n by one turn, that goes on at the end of the row; the other turns lead to 0, where no ring begins. */
    private static String ringOf(int n, int turn) {
        StringBuilder text = new StringBuilder("n" + n + ";");
        for (int k = 0; k < n; k++) {
            text.append("c0");
            for (int t = 0; t < 3; t++) {
                text.append(' ').append(t == turn ? (k + 1) % n : 0);
            }
            text.append(';');
        }
        // they stand at the last, whence all turns lead to 0; the second does not know the last, if there are two
        int last = n - 1;
        return text + "g" + last + " 1 " + ((1 << n) - 1) + ";g" + last + " 1 " + Math.max(1, (1 << last) - 1) + ";";
    }

    private static void allGoBy() {
        Edge.says(23, "ALL GO BY. UNKNOWN.");
        Edge.changesNothing("allGoBy(0, 1, 0): he cannot now", 0, x -> x.allGoBy(0, 1, 0));
        Edge.changesNothing("allGoBy(0, 0, 1)", 0, x -> x.allGoBy(0, 0, 1));
        Edge.changesNothing("allGoBy(0, 2, 1): from a wall", 1, x -> x.allGoBy(0, 2, 1));
        Edge.changesNothing("allGoBy(3, 0, 0)", UNKNOWN, x -> x.allGoBy(3, 0, 0));
        Edge.changesNothing("allGoBy(0, 4, 0)", UNKNOWN, x -> x.allGoBy(0, 4, 0));
        Edge.changesNothing("allGoBy(0, 0, 4)", UNKNOWN, x -> x.allGoBy(0, 0, 4));
        for (int far : FAR) {
            Edge.changesNothing("allGoBy(" + far + ", 0, 0)", UNKNOWN, x -> x.allGoBy(far, 0, 0));
            Edge.changesNothing("allGoBy(0, " + far + ", 0)", UNKNOWN, x -> x.allGoBy(0, far, 0));
            Edge.changesNothing("allGoBy(0, 0, " + far + ")", UNKNOWN, x -> x.allGoBy(0, 0, far));
            Edge.changesNothing("allGoBy(0, " + far + ", " + far + ")", UNKNOWN, x -> x.allGoBy(0, far, far));
        }
        Edge.says(23, "ALL GO BY: CROSSINGS (a SET) but A, B, where with a WALL more a GUIDE could not lead from A to B, though he can now.");
        BlindGuides x = Check.cityOf(ROW + "g0 1 255;g0 1 126;");
        Edge.due("allGoBy(0, 0, 7): all but the ends", x.allGoBy(0, 0, 7), 126);
        Edge.due("allGoBy(0, 7, 0): one street", x.allGoBy(0, 7, 0), 0);
        Edge.due("allGoBy(0, 7, 6)", x.allGoBy(0, 7, 6), 63);
        Edge.due("allGoBy(0, 5, 5): the same", x.allGoBy(0, 5, 5), 0);
        Edge.due("allGoBy(1, 0, 7): he cannot now", x.allGoBy(1, 0, 7), 0);
        Edge.due("allGoBy(1, 0, 6)", x.allGoBy(1, 0, 6), 62);
        x.wall(0, true);
        Edge.due("allGoBy(0, 0, 7): a wall at A", x.allGoBy(0, 0, 7), 126);
        x.wall(7, true);
        Edge.due("allGoBy(0, 0, 7): a wall at B", x.allGoBy(0, 0, 7), 0);
        Edge.due("allGoBy(0, 7, 7): a wall at both", x.allGoBy(0, 7, 7), 0);
        BlindGuides two = Check.cityOf(ROUND + "g0 1 31;");
        Edge.due("two ways", two.allGoBy(0, 0, 4), 0);
        two.wall(2, true);
        Edge.due("two ways, a wall on one", two.allGoBy(0, 0, 4), 2);
        two.wall(2, false);
        two.wall(1, true);
        Edge.due("two ways, a wall on the other", two.allGoBy(0, 0, 4), 12);
    }

    private static void pose() {
        Edge.says(24, "POSE. UNKNOWN.");
        Edge.changesNothing("pose(0, 15)", 0, x -> x.pose(0, 15));
        Edge.changesNothing("pose(0, 0)", 3, x -> x.pose(0, 0));
        Edge.changesNothing("pose(3, 0)", UNKNOWN, x -> x.pose(3, 0));
        Edge.changesNothing("pose(0, 16)", UNKNOWN, x -> x.pose(0, 16));
        Edge.changesNothing("pose(0, 17)", UNKNOWN, x -> x.pose(0, 17));
        for (int far : FAR) {
            Edge.changesNothing("pose(" + far + ", 0)", UNKNOWN, x -> x.pose(far, 0));
            Edge.changesNothing("pose(0, " + far + ")", UNKNOWN, x -> x.pose(0, far));
        }
        Edge.says(24, "POSE: of pairs of unlike CROSSINGS both of which a GUIDE knows, by how many he can lead from the one to the other, "
            + "but one who knows the CROSSINGS of a SET alone could not by as few STREETS.");
        BlindGuides row = Check.cityOf(ROW + "g0 1 255;g0 1 1;g0 1 129;");
        Edge.due("pose(0, 0): one who knows nothing, all pairs", row.pose(0, 0), 56);
        Edge.due("pose(0, 255): one who knows all", row.pose(0, 255), 0);
        Edge.due("pose(0, 254): no way back", row.pose(0, 254), 28);
        Edge.due("pose(1, 0): of one crossing there is no pair", row.pose(1, 0), 0);
        Edge.due("pose(2, 0): from 7 to 0 alone", row.pose(2, 0), 1);
        BlindGuides x = Check.cityOf(ROUND + "g0 1 31;g0 1 29;");
        int[] sets = {31, 30, 29, 27, 23, 15, 0};
        int[] pairs = {0, 0, 2, 2, 3, 4, 8};
        for (int i = 0; i < sets.length; i++) {
            Edge.due("pose(0, " + sets[i] + ")", x.pose(0, sets[i]), pairs[i]);
        }
        Edge.due("pose(1, 31): one who knows more", x.pose(1, 31), 0);
        Edge.due("pose(1, 0)", x.pose(1, 0), 6);
        x.wall(1, true);
        Edge.due("pose(0, 29): the wall is there for both", x.pose(0, 29), 0);
        Edge.due("pose(0, 31): the wall is there for both", x.pose(0, 31), 0);
        // from 0 to 4 he goes by 2 and 3: one who knows 1 cannot by it either
        Edge.due("pose(0, 19): the wall is there for both", x.pose(0, 19), 5);
    }

    private static void clouds() {
        Edge.says(25, "CLOUDS. OUTSIDE.");
        for (int far : new int[] {LEAST, UNKNOWN, -2, -1, 101, 256, MOST}) {
            Edge.changesNothing("clouds(" + far + ", 50)", OUTSIDE, x -> x.clouds(far, 50));
            Edge.changesNothing("clouds(3, " + far + ")", OUTSIDE, x -> x.clouds(3, far));
            Edge.due("clouds(" + far + ", 50) of no city", new BlindGuides().clouds(far, 50), OUTSIDE);
        }
        Edge.changesNothing("clouds(61, 50)", OUTSIDE, x -> x.clouds(61, 50));
        Edge.changesNothing("clouds(2, 50)", 250000000, x -> x.clouds(2, 50));
        Edge.says(25, "CLOUDS: odds of n dark nights (0 .. 60), each by q of a hundred (0 .. 100): a BILLION times q / 100 each (cut).");
        BlindGuides x = new BlindGuides();
        for (int q = 0; q <= 100; q++) {
            Edge.due("clouds(0, " + q + ")", x.clouds(0, q), 1000000000);
            Edge.due("clouds(1, " + q + ")", x.clouds(1, q), q * 10000000);
        }
        for (int n = 1; n <= 60; n++) {
            Edge.due("clouds(" + n + ", 0)", x.clouds(n, 0), 0);
            Edge.due("clouds(" + n + ", 100)", x.clouds(n, 100), 1000000000);
        }
        // cut each time, not in the end: that would be 1 more
        Edge.due("clouds(6, 43)", x.clouds(6, 43), 6321362);
        Edge.due("clouds(7, 26)", x.clouds(7, 26), 80317);
        Edge.due("clouds(4, 1)", x.clouds(4, 1), 10);
        Edge.due("clouds(5, 1)", x.clouds(5, 1), 0);
        Edge.due("clouds(29, 50)", x.clouds(29, 50), 1);
        Edge.due("clouds(30, 50)", x.clouds(30, 50), 0);
        Edge.due("clouds(60, 99)", x.clouds(60, 99), 547156620);
    }
}
