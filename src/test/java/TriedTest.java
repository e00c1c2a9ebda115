/** Promises 17 to 25: what is tried, and changes nothing. */
public final class TriedTest {
    private static final int NONE = -1, UNKNOWN = -1000000001, OUTSIDE = -1000000002;
    /** Two ways from 0 to 3: by 1 (turn 1) and by 2 (turn 0); 3 leads back to 0 alone; 4 leads nowhere. */
    private static final String FORK = "n5;c0 2 1 0;c0 3 3 1;c0 3 2 2;c0 0 0 0;c0 4 4 4;g0 10 31;g4 3 11;e0 3;e1 1;e3 0;e4 0;";

    public static void main(String[] args) {
        leads();
        way();
        match();
        matchPrefers();
        fromWherever();
        meet();
        ring();
        allGoBy();
        pose();
        clouds();
        Check.end();
    }

    private static void leads() {
        BlindGuides x = Check.cityOf(FORK);
        int[][] rows = {{2, 20, 0}, {0, 0, NONE}, {1, 10, 0}, {NONE, NONE, NONE}};
        for (int e = 0; e < 4; e++) {
            for (int what = 0; what < 3; what++) {
                Check.due("leads(0, " + e + ", " + what + ")", x.leads(0, e, what), rows[e][what]);
            }
        }
        Check.due("the first turn of who does not know 2", x.leads(1, 0, 2), 1);
        Check.due("leads(0, 0, 3)", x.leads(0, 0, 3), OUTSIDE);
        Check.due("leads(0, 0, -1)", x.leads(0, 0, -1), OUTSIDE);
        Check.due("leads(2, 0, 3)", x.leads(2, 0, 3), UNKNOWN);
        Check.due("leads(0, 4, 0)", x.leads(0, 4, 0), UNKNOWN);
        x.wall(2, true);
        Check.due("the first turn with a wall at 2", x.leads(0, 0, 2), 1);
        x.hire(0, 0);
        Check.due("leads(0, 0, 0) of who is home", x.leads(0, 0, 0), NONE);
        Check.due("leads(0, 0, 3) of who is home", x.leads(0, 0, 3), OUTSIDE);
        Check.due("nothing is done", x.told(13), 2);
    }

    private static void way() {
        BlindGuides x = Check.cityOf(FORK);
        int[][] ways = {{0, 1, 1, 2, NONE}, {2, 0, 3, 1, NONE}, {2, 3, 0, 1, NONE}, {1, 2, 2, 0, NONE}, {NONE, NONE, NONE, NONE, 0}};
        for (int a = 0; a < 5; a++) {
            for (int b = 0; b < 5; b++) {
                Check.due("way(0, " + a + ", " + b + ")", x.way(0, a, b), ways[a][b]);
            }
        }
        Check.due("to what he does not know", x.way(1, 0, 2), NONE);
        Check.due("from what he does not know", x.way(1, 2, 3), 1);
        Check.due("where he does not know", x.way(1, 2, 2), 0);
        x.wall(3, true);
        Check.due("to a wall", x.way(0, 0, 3), NONE);
        Check.due("from a wall", x.way(0, 3, 0), 1);
        Check.due("at a wall", x.way(0, 3, 3), 0);
        Check.due("way(2, 0, 0)", x.way(2, 0, 0), UNKNOWN);
        Check.due("way(0, 5, 0)", x.way(0, 5, 0), UNKNOWN);
        Check.due("way(0, 0, -1)", x.way(0, 0, -1), UNKNOWN);
        BlindGuides row = Check.cityOf("n8;c0 1 0 0;c0 2 0 0;c0 3 0 0;c0 4 0 0;c0 5 0 0;c0 6 0 0;c0 7 0 0;g0 1 255;");
        Check.due("the longest way of all", row.way(0, 0, 7), 7);
        BlindGuides alone = Check.cityOf("n1;g0 1 1;");
        Check.due("way(0, 0, 0) in a city of one", alone.way(0, 0, 0), 0);
    }

    private static void dueMatch(BlindGuides x, String of, int many, int longest, int cost, int... guides) {
        Check.due("match(-1) of " + of, x.match(-1), many);
        Check.due("match(-2) of " + of, x.match(-2), longest);
        Check.due("match(-3) of " + of, x.match(-3), cost);
        for (int e = 0; e < guides.length; e++) {
            Check.due("match(" + e + ") of " + of, x.match(e), guides[e]);
        }
    }

    private static void match() {
        BlindGuides x = Check.cityOf(FORK);
        // guide 1 asks 3: he leads client 0 two streets for 6; then guide 0 leads client 1 or 2: longest is 2 so or so,
        // but clients 1 and 2 without client 0 make it 1 street, by guide 0 for nothing and guide 1 for 3
        dueMatch(x, "FORK", 2, 1, 3, NONE, 0, 1, NONE);
        x.hire(0, 1);
        dueMatch(x, "FORK without client 1", 2, 2, 16, 1, NONE, 0, NONE);
        x.hire(0, 0);
        dueMatch(x, "FORK with client 2 alone", 1, 1, 3, NONE, NONE, 1, NONE);
        x.hire(0, 2);
        dueMatch(x, "FORK with none to lead", 0, 0, 0, NONE, NONE, NONE, NONE);
        Check.due("match(4)", x.match(4), UNKNOWN);
        Check.due("match(-4)", x.match(-4), UNKNOWN);
        BlindGuides none = new BlindGuides();
        dueMatch(none, "no city", 0, 0, 0);
        Check.due("match(0) of no city", none.match(0), UNKNOWN);
        dueMatch(Check.cityOf("n2;e0 0;e0 1;"), "a city without guides", 0, 0, 0, NONE, NONE);
        dueMatch(Check.cityOf("n2;g0 1 3;"), "a city without clients", 0, 0, 0);
    }

    private static void matchPrefers() {
        // most clients: guide 0 can lead both, guide 1 client 0 alone
        dueMatch(Check.cityOf("n3;c0 1 2 0;g0 1 7;g0 50 2;e0 1;e0 2;"), "the most clients", 2, 1, 51, 1, 0);
        // the shortest longest way, though it costs more: guide 0 knows all (1 street), guide 1 must go by 2
        dueMatch(Check.cityOf("n3;c0 2 1 0;c0 0 0 0;c0 1 1 1;g0 90 2;g0 1 4;e0 1;"), "one guide who can", 1, 1, 90, 0);
        dueMatch(Check.cityOf("n4;c0 1 2 0;c0 3 3 3;c0 2 2 2;c0 3 3 3;g0 1 10;g0 90 14;e0 3;e0 2;"), "two guides", 2, 2, 92, 0, 1);
        // of like ones the least cost, then the lesser guide for the first client
        dueMatch(Check.cityOf("n2;c0 1 1 1;g0 9 3;g0 5 3;g0 5 3;e0 1;"), "like costs", 1, 1, 5, 1);
        dueMatch(Check.cityOf("n2;c0 1 1 1;g0 5 3;g0 5 3;e0 1;e0 1;"), "like guides", 2, 1, 10, 0, 1);
        dueMatch(Check.cityOf("n2;c0 1 1 1;g0 5 3;e0 1;e0 1;"), "none last", 1, 1, 5, 0, NONE);
        dueMatch(Check.cityOf("n2;c0 1 1 1;g0 9 3;g0 2 3;e0 1;e1 1;e0 1;"), "a way of no street", 2, 1, 2, 1, 0, NONE);
        dueMatch(Check.cityOf("n2;c0 1 1 1;g0 9 3;g0 3 3;e0 1;e0 1;m5;"), "half by moon, each cut", 2, 1, 5, 0, 1);
    }

    private static void fromWherever() {
        // turn 0 goes a ring of 3, turn 1 leads 0 to 1 and leaves the others: 1 comes to all by 2 1 1 2
        BlindGuides x = Check.cityOf("n4;c0 1 1 0;c0 2 1 1;c0 0 2 2;c0 3 3 3;");
        Check.due("fromWherever(7, 1, 0)", x.fromWherever(7, 1, 0), 4);
        Check.due("fromWherever(7, 1, 1)", x.fromWherever(7, 1, 1), 2112);
        Check.due("fromWherever(7, 2, 1)", x.fromWherever(7, 2, 1), 21121);
        Check.due("fromWherever(3, 1, 1)", x.fromWherever(3, 1, 1), 2);
        Check.due("fromWherever(1, 1, 1): of like ones the least", x.fromWherever(1, 1, 1), 1);
        Check.due("fromWherever(2, 1, 0)", x.fromWherever(2, 1, 0), 0);
        Check.due("fromWherever(2, 1, 1)", x.fromWherever(2, 1, 1), 0);
        Check.due("fromWherever(0, 3, 0)", x.fromWherever(0, 3, 0), 0);
        Check.due("fromWherever(0, 3, 1)", x.fromWherever(0, 3, 1), 0);
        Check.due("fromWherever(8, 1, 0)", x.fromWherever(8, 1, 0), NONE);
        Check.due("fromWherever(9, 3, 1)", x.fromWherever(9, 3, 1), NONE);
        Check.due("fromWherever(16, 0, 0)", x.fromWherever(16, 0, 0), UNKNOWN);
        Check.due("fromWherever(-1, 0, 0)", x.fromWherever(-1, 0, 0), UNKNOWN);
        Check.due("fromWherever(1, 4, 9)", x.fromWherever(1, 4, 9), UNKNOWN);
        Check.due("fromWherever(1, 0, 2)", x.fromWherever(1, 0, 2), OUTSIDE);
        Check.due("fromWherever(1, 0, -1)", x.fromWherever(1, 0, -1), OUTSIDE);
        Check.due("fromWherever(0, 0, 0) of no city", new BlindGuides().fromWherever(0, 0, 0), UNKNOWN);
        x.wall(1, true);
        Check.due("walls are no matter", x.fromWherever(3, 1, 1), 2);
        // nine turns and no more: the same in rings of 4, where all meet by 2 111 2 111 2
        BlindGuides nine = Check.cityOf("n4;c0 1 1 0;c0 2 1 1;c0 3 2 2;c0 0 3 3;");
        Check.due("nine turns", nine.fromWherever(15, 1, 0), 9);
        Check.due("nine turns", nine.fromWherever(15, 1, 1), 211121112);
        Check.due("ten turns are too many", nine.fromWherever(15, 2, 0), NONE);
        Check.due("ten turns are too many", nine.fromWherever(15, 2, 1), NONE);
        Check.due("all meet by nine", nine.meet(15, 1), 211121112);
    }

    private static void meet() {
        BlindGuides x = Check.cityOf("n4;c0 1 1 0;c0 2 1 1;c0 0 2 2;c0 3 3 3;");
        Check.due("meet(7, 0)", x.meet(7, 0), 4);
        Check.due("meet(7, 1)", x.meet(7, 1), 2112);
        Check.due("meet(5, 1): first round the ring", x.meet(5, 1), 12);
        Check.due("meet(6, 1)", x.meet(6, 1), 112);
        Check.due("meet(4, 0)", x.meet(4, 0), 0);
        Check.due("meet(4, 1)", x.meet(4, 1), 0);
        Check.due("meet(0, 0)", x.meet(0, 0), 0);
        Check.due("meet(9, 0)", x.meet(9, 0), NONE);
        Check.due("meet(9, 1)", x.meet(9, 1), NONE);
        Check.due("meet(16, 9)", x.meet(16, 9), UNKNOWN);
        Check.due("meet(-1, 0)", x.meet(-1, 0), UNKNOWN);
        Check.due("meet(3, 2)", x.meet(3, 2), OUTSIDE);
        Check.due("meet(3, -1)", x.meet(3, -1), OUTSIDE);
        BlindGuides none = new BlindGuides();
        Check.due("meet(0, 1) of no city", none.meet(0, 1), 0);
        Check.due("meet(1, 0) of no city", none.meet(1, 0), UNKNOWN);
    }

    private static void ring() {
        BlindGuides x = Check.cityOf("n4;c0 1 1 1;c0 2 2 2;c0 0 3 0;c0 3 0 0;g0 1 7;g0 1 6;g3 1 8;g2 1 15;");
        Check.due("ring(0)", x.ring(0), 3);
        Check.due("ring(1): he does not know where he stands", x.ring(1), NONE);
        Check.due("ring(2): one street leads back", x.ring(2), 1);
        Check.due("ring(4)", x.ring(4), UNKNOWN);
        Check.due("ring(-1)", x.ring(-1), UNKNOWN);
        x.wall(1, true);
        Check.due("ring(0) with a wall", x.ring(0), NONE);
        x.wall(1, false);
        x.wall(0, true);
        Check.due("ring(0) with a wall where he stands", x.ring(0), NONE);
        Check.due("ring(3) with a wall in the way", x.ring(3), NONE);
        BlindGuides eight = Check.cityOf("n8;c0 1 1 1;c0 2 2 2;c0 3 3 3;c0 4 4 4;c0 5 5 5;c0 6 6 6;c0 7 7 7;c0 0 0 0;g5 1 255;");
        Check.due("the longest ring of all", eight.ring(0), 8);
    }

    private static void allGoBy() {
        BlindGuides x = Check.cityOf(FORK);
        Check.due("two ways", x.allGoBy(0, 0, 3), 0);
        Check.due("one way", x.allGoBy(0, 1, 0), 8);
        Check.due("one way", x.allGoBy(0, 2, 1), 9);
        Check.due("one knows one way of two", x.allGoBy(1, 0, 3), 2);
        Check.due("no way", x.allGoBy(0, 0, 4), 0);
        Check.due("the same one", x.allGoBy(0, 1, 1), 0);
        x.wall(2, true);
        Check.due("one way of two is walled", x.allGoBy(0, 0, 3), 2);
        Check.due("allGoBy(2, 0, 0)", x.allGoBy(2, 0, 0), UNKNOWN);
        Check.due("allGoBy(0, 5, 0)", x.allGoBy(0, 5, 0), UNKNOWN);
        Check.due("allGoBy(0, 0, -1)", x.allGoBy(0, 0, -1), UNKNOWN);
        Check.due("nothing is built", x.told(6), 4);
    }

    private static void pose() {
        // a ring of 3 by turn 0, with a short cut from 0 to 2 by turn 1; guide 1 knows 0 and 2 alone
        BlindGuides x = Check.cityOf("n3;c0 1 2 0;c0 2 1 1;c0 0 2 2;g0 1 7;g0 1 5;");
        Check.due("one who knows nothing", x.pose(0, 0), 6);
        Check.due("one who knows as much", x.pose(0, 7), 0);
        // 0 to 1 and 2 to 1 cannot be, the others can by as few: 1 to 2, 0 to 2, 1 to 0 by 2, 2 to 0
        Check.due("one who does not know 1", x.pose(0, 5), 2);
        // without 0 neither 1 nor 2 come to 0, nor 2 to 1
        Check.due("one who does not know 0", x.pose(0, 6), 3);
        // without 2: 0 to 2, 1 to 2, 1 to 0 cannot be; 2 to 1 and 2 to 0, 0 to 1 can
        Check.due("one who does not know 2", x.pose(0, 3), 3);
        Check.due("pairs that he knows alone", x.pose(1, 0), 2);
        Check.due("one who knows more", x.pose(1, 7), 0);
        x.wall(2, true);
        Check.due("walls stand for both", x.pose(0, 7), 0);
        Check.due("walls stand for both", x.pose(0, 0), 3);
        Check.due("pose(2, 0)", x.pose(2, 0), UNKNOWN);
        Check.due("pose(0, 8)", x.pose(0, 8), UNKNOWN);
        Check.due("pose(0, -1)", x.pose(0, -1), UNKNOWN);
        // by more streets is not enough: 0 to 1 by turn 0, or by 2; who knows 1 alone cannot fail there, who knows more is no better
        BlindGuides y = Check.cityOf("n4;c0 1 2 0;c0 3 1 1;c0 3 3 3;c0 3 3 3;g0 1 15;");
        // 0 to 3 goes by 1 or 2; 0 to 1, 0 to 2, 1 to 3, 2 to 3: without 1 fails 0 to 1 alone
        Check.due("another way of as few", y.pose(0, 13), 1);
        BlindGuides z = Check.cityOf("n4;c0 1 2 0;c0 3 1 1;c0 1 2 2;c0 3 3 3;g0 1 15;g0 1 13;");
        Check.due("another way of more streets", z.pose(0, 15), 0);
        Check.due("no way without 1", z.pose(0, 13), 4);
    }

    private static void clouds() {
        BlindGuides x = new BlindGuides();
        Check.due("clouds(0, 0)", x.clouds(0, 0), 1000000000);
        Check.due("clouds(1, 0)", x.clouds(1, 0), 0);
        Check.due("clouds(1, 37)", x.clouds(1, 37), 370000000);
        Check.due("clouds(5, 33)", x.clouds(5, 33), 3913539);
        Check.due("clouds(60, 99)", x.clouds(60, 99), 547156620);
        Check.due("clouds(60, 100)", x.clouds(60, 100), 1000000000);
        Check.due("clouds(61, 50)", x.clouds(61, 50), OUTSIDE);
        Check.due("clouds(-1, 50)", x.clouds(-1, 50), OUTSIDE);
        Check.due("clouds(1, 101)", x.clouds(1, 101), OUTSIDE);
        Check.due("clouds(1, -1)", x.clouds(1, -1), OUTSIDE);
    }
}
