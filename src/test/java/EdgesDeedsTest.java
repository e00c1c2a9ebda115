import java.util.ArrayList;
import java.util.List;

/** Promises 9 to 16 and 33 to 35: each sentence of the document that names an edge, in the document's order. */
public final class EdgesDeedsTest {
    private static final int NONE = -1, UNKNOWN = -1000000001, OUTSIDE = -1000000002, NOT = -1000000003, FULL = -1000000004;
    private static final int LEAST = Edge.LEAST, MOST = Edge.MOST;
    private static final int[] FAR = {LEAST, -1000000001, -2, -1, 256, 65536, MOST};
    /** Eight crossings in a row by turn 0, the last leads to itself; by turn 1 one goes back to 0, by turn 2 one stays. */
    private static final String ROW = "n8;c0 1 0 0;c0 2 0 1;c0 3 0 2;c0 4 0 3;c0 5 0 4;c0 6 0 5;c0 7 0 6;c0 7 0 7;";

    public static void main(String[] args) {
        night();
        nightOrDriftRefused(false);
        nightOrDriftRefused(true);
        nightsAbove(false);
        nightsAbove(true);
        hire();
        hireCannot();
        hirePrices();
        paidAtMost();
        nowhere();
        wall();
        learn();
        forget();
        drift();
        driftByDraws();
        undo();
        undoEach();
        undoKeepsSixteen();
        seed();
        keep();
        goBack();
        Check.end();
    }

    private static void night() {
        Edge.says(9, "n NIGHTS (1 .. 60): NIGHTS.");
        BlindGuides x = Check.cityOf(ROW);
        Edge.due("night(1)", x.night(1), 1);
        Edge.due("night(60)", x.night(60), 61);
        Edge.due("told(4)", x.told(4), 61);
        Edge.says(9, "A NIGHT passes: all CLIENTS are at F again, not HOME; NIGHTS are one more.");
        BlindGuides y = Check.cityOf(ROW + "g0 3 255;e0 2;e3 3;");
        for (int n = 1; n <= 3; n++) {
            Edge.due("hire(0, 0)", y.hire(0, 0), 6);
            Edge.due("hire(0, 1)", y.hire(0, 1), 0);
            Edge.due("told(7)", y.told(7), 3);
            y.wall(0, true);
            y.night(n);
            Edge.due("told(7) behind night(" + n + ")", y.told(7), 0);
            Edge.due("client(0, 2)", y.client(0, 2), 0);
            Edge.due("guide(0, 0): he stands where he stood", y.guide(0, 0), 3);
            Edge.due("guide(0, 3): his head stays", y.guide(0, 3), 3);
            Edge.due("told(6): walls stay", y.told(6), 1);
            Edge.due("told(8): what is paid stays", y.told(8), 6 * n);
        }
        Edge.due("told(4)", y.told(4), 6);
    }

    private static int pass(BlindGuides x, boolean drifts, int n) {
        return drifts ? x.drift(n) : x.night(n);
    }

    private static void nightOrDriftRefused(boolean drifts) {
        String name = drifts ? "drift" : "night";
        Edge.says(drifts ? 15 : 9, "OUTSIDE, NOT: no CITY; FULL: NIGHTS are above 9000 as it is called (n may pass that).");
        Edge.changesNothing(name + "(0)", OUTSIDE, x -> pass(x, drifts, 0));
        Edge.changesNothing(name + "(61)", OUTSIDE, x -> pass(x, drifts, 61));
        for (int far : FAR) {
            Edge.changesNothing(name + "(" + far + ")", OUTSIDE, x -> pass(x, drifts, far));
        }
        BlindGuides none = new BlindGuides();
        BlindGuides emptied = Check.cityOf(ROW);
        Edge.due("city() of an empty text", emptied.city(), 0);
        for (BlindGuides x : new BlindGuides[] {none, emptied}) {
            Edge.due(name + "(1) of no city", pass(x, drifts, 1), NOT);
            Edge.due(name + "(60) of no city", pass(x, drifts, 60), NOT);
            Edge.due(name + "(0) of no city", pass(x, drifts, 0), OUTSIDE);
            Edge.due(name + "(61) of no city", pass(x, drifts, 61), OUTSIDE);
            Edge.due("told(4)", x.told(4), 0);
            Edge.due("told(13)", x.told(13), 0);
            Edge.due("seed(0)", x.seed(0), 0);
        }
    }

    private static BlindGuides atNights(int nights) {
        BlindGuides x = Check.cityOf("n2;c0 1 1 1;g0 3 3;e0 1;m1,2;");
        for (int i = 0; i < nights / 60; i++) {
            x.night(60);
        }
        if (nights % 60 > 0) {
            x.night(nights % 60);
        }
        x.hire(0, 0);
        Check.due("told(4)", x.told(4), nights);
        return x;
    }

    private static void nightsAbove(boolean drifts) {
        String name = drifts ? "drift" : "night";
        Edge.says(drifts ? 15 : 9, "FULL: NIGHTS are above 9000 as it is called (n may pass that).");
        for (int nights : new int[] {8999, 9000}) {
            for (int n : new int[] {1, 2, 60}) {
                BlindGuides x = atNights(nights);
                Edge.due(name + "(" + n + ") at " + nights + " is not refused", pass(x, drifts, n) > 0 ? 1 : 0, 1);
                Edge.due("told(4)", x.told(4), nights + n);
                Edge.due(name + "(1) behind it", Math.min(pass(x, drifts, 1), 1), nights + n > 9000 ? FULL : 1);
            }
        }
        for (int nights : new int[] {9001, 9060}) {
            BlindGuides x = atNights(9000);
            x.night(nights - 9000);
            x.hire(0, 0);
            x.seed(9);
            int[] ahead = new int[14];
            for (int what = 0; what < 14; what++) {
                ahead[what] = x.told(what);
            }
            for (int n : new int[] {1, 60}) {
                Edge.due(name + "(" + n + ") at " + nights, pass(x, drifts, n), FULL);
            }
            Edge.due(name + "(0) at " + nights, pass(x, drifts, 0), OUTSIDE);
            Edge.due(name + "(61) at " + nights, pass(x, drifts, 61), OUTSIDE);
            for (int what = 0; what < 14; what++) {
                Edge.due("told(" + what + ") behind a refusal", x.told(what), ahead[what]);
            }
            Edge.due("seed(9)", x.seed(9), 9);
            Edge.due("undo() of the hire", x.undo(), 15);
            Edge.due("told(7)", x.told(7), 0);
            Edge.due("undo() of the night", x.undo(), 14);
            Edge.due("told(4)", x.told(4), 9000);
        }
    }

    private static void hire() {
        Edge.says(10, "UNKNOWN, NOT: the CLIENT is HOME, the GUIDE cannot lead there.");
        Edge.changesNothing("hire(3, 1)", UNKNOWN, x -> x.hire(3, 1));
        Edge.changesNothing("hire(0, 2)", UNKNOWN, x -> x.hire(0, 2));
        Edge.changesNothing("hire(3, 0) of who is home", UNKNOWN, x -> x.hire(3, 0));
        for (int far : FAR) {
            Edge.changesNothing("hire(" + far + ", 1)", UNKNOWN, x -> x.hire(far, 1));
            Edge.changesNothing("hire(0, " + far + ")", UNKNOWN, x -> x.hire(0, far));
            Edge.changesNothing("hire(" + far + ", " + far + ")", UNKNOWN, x -> x.hire(far, far));
        }
        Edge.changesNothing("hire(0, 0) of who is home", NOT, x -> x.hire(0, 0));
        Edge.changesNothing("hire(0, 1): walls are in his way", NOT, x -> x.hire(0, 1));
        Edge.changesNothing("hire(2, 1): he does not know his way", NOT, x -> x.hire(2, 1));
        Edge.says(10, "HIRED by a CLIENT who is not HOME: the GUIDE comes to where the CLIENT is (as a cat, nobody counts it), leads to T by his WAY");
        BlindGuides x = Check.cityOf(ROW + "g7 5 255;e0 2;e2 2;e2 0;");
        Edge.due("hire(0, 0): from F, not from where he stands", x.hire(0, 0), 10);
        Edge.due("guide(0, 0): he stands at T", x.guide(0, 0), 2);
        Edge.due("hire(0, 2)", x.hire(0, 2), 5);
        Edge.due("hire(0, 1): T is F", x.hire(0, 1), 0);
        Edge.due("guide(0, 0)", x.guide(0, 0), 2);
        Edge.due("told(7)", x.told(7), 7);
        Edge.due("told(8)", x.told(8), 15);
        Edge.says(10, "his HEAD keeps which CLIENTS he led (a SET of CLIENTS)");
        Edge.due("guide(0, 3): even by no street", x.guide(0, 3), 7);
        x.night(1);
        x.hire(0, 0);
        Edge.due("guide(0, 3): whom he led before, too", x.guide(0, 3), 7);
    }

    private static void hireCannot() {
        Edge.says(10, "A GUIDE can lead by a TURN to a CROSSING that he knows, and where there is no WALL (none at first); wherever he is.");
        BlindGuides x = Check.cityOf(ROW + "g0 1 4;g0 1 2;g0 1 6;g0 1 8;e0 2;e3 3;");
        Edge.due("hire(0, 0): he knows T, not the crossing between", x.hire(0, 0), NOT);
        Edge.due("hire(1, 0): he knows the crossing between, not T", x.hire(1, 0), NOT);
        x.wall(0, true);
        Edge.due("hire(2, 0): F he does not know, and a wall is there", x.hire(2, 0), 2);
        x.undo();
        x.wall(1, true);
        Edge.due("hire(2, 0): a wall between", x.hire(2, 0), NOT);
        x.wall(1, false);
        x.wall(2, true);
        Edge.due("hire(2, 0): a wall at T", x.hire(2, 0), NOT);
        x.wall(3, true);
        Edge.due("hire(0, 1): T is F, a wall is there, and he does not know it", x.hire(0, 1), 0);
        Edge.due("guide(0, 0)", x.guide(0, 0), 3);
    }

    private static void hirePrices() {
        Edge.says(10, "he asks P for each STREET of it, half of it all (cut) with MOON of 5 or more");
        BlindGuides x = Check.cityOf(ROW + "g0 99 255;g0 3 255;g0 1 255;g0 0 255;e0 7;e0 3;e0 1;e0 2;m0,1,2,3,4,5,6,7,8,9;");
        for (int night = 0; night < 20; night++) {
            boolean bright = night % 10 >= 5;
            Edge.due("99 for 7 streets in night " + night, x.hire(0, 0), bright ? 346 : 693);
            Edge.due("3 for 3 streets in night " + night, x.hire(1, 1), bright ? 4 : 9);
            Edge.due("1 for 1 street in night " + night, x.hire(2, 2), bright ? 0 : 1);
            Edge.due("0 for 2 streets in night " + night, x.hire(3, 3), 0);
            x.night(1);
        }
        Edge.due("told(8)", x.told(8), 10 * (350 + 703));
    }

    /** Seven streets at 98 each: 686, of which 999999 is no multiple. */
    private static void paidAtMost() {
        Edge.says(10, "PAID (999999 at most in all)");
        BlindGuides x = Check.cityOf("n8;c0 1 1 1;c0 2 2 2;c0 3 3 3;c0 4 4 4;c0 5 5 5;c0 6 6 6;c0 7 7 7;g0 98 255;e0 7;e0 7;e0 7;e0 7;e0 7;");
        for (int i = 1; i <= 11; i++) {
            // a seed by whose draws no wall is built on the way in sixty nights
            x.seed(161313);
            Edge.due("drift(60), " + i + " times", x.drift(60), Math.min(i * 150 * 686, 999999));
            Edge.due("told(8)", x.told(8), Math.min(i * 150 * 686, 999999));
        }
        Edge.due("leads(0, 0, 1) at the most", x.leads(0, 0, 1), 686);
        Edge.due("hire(0, 0) at the most: the whole price", x.hire(0, 0), 686);
        Edge.due("told(8)", x.told(8), 999999);
        Edge.due("told(7): he is home all the same", x.told(7), 1);
        Edge.due("night(1)", x.night(1) > 0 ? x.told(8) : 0, 999999);
        for (int i = 0; i < 3; i++) {
            x.undo();
        }
        Edge.due("told(8) with the last drift undone: the most was passed before", x.told(8), 999999);
        x.undo();
        Edge.due("told(8) with the drift undone that passed the most", x.told(8), 9 * 150 * 686);
    }

    private static void nowhere() {
        Edge.says(11, "LED NOWHERE, n (1 .. 20) STREETS: where he stands. UNKNOWN, OUTSIDE.");
        Edge.changesNothing("nowhere(1, 0)", OUTSIDE, x -> x.nowhere(1, 0));
        Edge.changesNothing("nowhere(1, 21)", OUTSIDE, x -> x.nowhere(1, 21));
        Edge.changesNothing("nowhere(3, 1)", UNKNOWN, x -> x.nowhere(3, 1));
        Edge.changesNothing("nowhere(3, 0)", UNKNOWN, x -> x.nowhere(3, 0));
        Edge.changesNothing("nowhere(3, 21)", UNKNOWN, x -> x.nowhere(3, 21));
        for (int far : FAR) {
            Edge.changesNothing("nowhere(1, " + far + ")", OUTSIDE, x -> x.nowhere(1, far));
            Edge.changesNothing("nowhere(" + far + ", 1)", UNKNOWN, x -> x.nowhere(far, 1));
            Edge.changesNothing("nowhere(" + far + ", " + far + ")", UNKNOWN, x -> x.nowhere(far, far));
        }
        String ring = "n7;c0 1 0 0;c0 2 1 1;c0 3 2 2;c0 4 3 3;c0 5 4 4;c0 6 5 5;c0 0 6 6;g0 9 127;e0 1;";
        for (int n = 1; n <= 20; n++) {
            BlindGuides x = Check.cityOf(ring);
            Edge.due("nowhere(0, " + n + ") in a ring of 7", x.nowhere(0, n), n % 7);
            Edge.due("guide(0, 0)", x.guide(0, 0), n % 7);
        }
        Edge.says(11, "a GUIDE goes n times by TURN 0, till he cannot lead so; nobody pays.");
        BlindGuides x = Check.cityOf(ROW + "g0 9 255;g0 9 30;g7 9 128;g6 9 1;e0 2;");
        Edge.due("nowhere(0, 2)", x.nowhere(0, 2), 2);
        Edge.due("nowhere(0, 20): in the end to the same crossing", x.nowhere(0, 20), 7);
        Edge.due("nowhere(1, 20): up to what he does not know", x.nowhere(1, 20), 4);
        Edge.due("nowhere(1, 20): he stays", x.nowhere(1, 20), 4);
        Edge.due("nowhere(2, 20): a street to the same crossing", x.nowhere(2, 20), 7);
        Edge.due("nowhere(3, 20): not one street", x.nowhere(3, 20), 6);
        Edge.due("told(8)", x.told(8), 0);
        Edge.due("told(7)", x.told(7), 0);
        Edge.due("guide(0, 3)", x.guide(0, 3), 0);
        x.hire(1, 0);
        x.wall(4, true);
        Edge.due("nowhere(1, 20): up to a wall", x.nowhere(1, 20), 3);
        x.wall(3, true);
        Edge.due("nowhere(1, 1): he stays at a wall", x.nowhere(1, 1), 3);
        x.wall(7, true);
        Edge.due("nowhere(2, 1): he stays at a wall", x.nowhere(2, 1), 7);
        Edge.due("told(13): none of these was refused", x.told(13), 13);
    }

    private static void wall() {
        Edge.says(12, "WALL (is), or none: 1 there was one, 0 not. UNKNOWN.");
        for (boolean is : new boolean[] {true, false}) {
            Edge.changesNothing("wall(4, " + is + ")", UNKNOWN, x -> x.wall(4, is));
            for (int far : FAR) {
                Edge.changesNothing("wall(" + far + ", " + is + ")", UNKNOWN, x -> x.wall(far, is));
            }
        }
        BlindGuides x = Check.cityOf(ROW);
        int[] places = {0, 3, 7};
        int walls = 0;
        for (int place : places) {
            Edge.due("wall(" + place + ", false): none at first", x.wall(place, false), 0);
            Edge.due("wall(" + place + ", true)", x.wall(place, true), 0);
            walls |= 1 << place;
            Edge.due("told(6)", x.told(6), walls);
            Edge.due("wall(" + place + ", true) again", x.wall(place, true), 1);
            Edge.due("told(6)", x.told(6), walls);
        }
        for (int place : places) {
            Edge.due("wall(" + place + ", false)", x.wall(place, false), 1);
            walls &= ~(1 << place);
            Edge.due("told(6)", x.told(6), walls);
            Edge.due("wall(" + place + ", false) again", x.wall(place, false), 0);
            Edge.due("told(6)", x.told(6), walls);
        }
        Edge.due("wall(8, true)", x.wall(8, true), UNKNOWN);
    }

    private static void learn() {
        Edge.says(13, "LEARNS: what he knows (a SET). UNKNOWN, NOT: he knows it.");
        Edge.changesNothing("learn(3, 0)", UNKNOWN, x -> x.learn(3, 0));
        Edge.changesNothing("learn(1, 4)", UNKNOWN, x -> x.learn(1, 4));
        Edge.changesNothing("learn(0, 4) of who knows all", UNKNOWN, x -> x.learn(0, 4));
        Edge.changesNothing("learn(0, 0): he knows it", NOT, x -> x.learn(0, 0));
        Edge.changesNothing("learn(1, 0): he has learnt it", NOT, x -> x.learn(1, 0));
        Edge.changesNothing("learn(2, 3): he knows it, though there is a wall", NOT, x -> x.learn(2, 3));
        for (int far : FAR) {
            Edge.changesNothing("learn(" + far + ", 0)", UNKNOWN, x -> x.learn(far, 0));
            Edge.changesNothing("learn(0, " + far + ")", UNKNOWN, x -> x.learn(0, far));
            Edge.changesNothing("learn(" + far + ", " + far + ")", UNKNOWN, x -> x.learn(far, far));
        }
        BlindGuides x = Check.cityOf(ROW + "g0 1 1;g0 1 2;");
        x.wall(7, true);
        for (int k = 1; k < 8; k++) {
            Edge.due("learn(0, " + k + ")", x.learn(0, k), (2 << k) - 1);
        }
        Edge.due("learn(0, 7) again", x.learn(0, 7), NOT);
        Edge.due("guide(0, 2): all", x.guide(0, 2), 255);
        Edge.due("guide(1, 2): another has learnt nothing", x.guide(1, 2), 2);
    }

    private static void forget() {
        Edge.says(14, "FORGETS: what his HEAD had (a SET of CLIENTS). UNKNOWN.");
        Edge.changesNothing("forget(3)", UNKNOWN, x -> x.forget(3));
        for (int far : FAR) {
            Edge.changesNothing("forget(" + far + ")", UNKNOWN, x -> x.forget(far));
        }
        BlindGuides x = Check.cityOf("n1;g0 1 1;g0 1 1;e0 0;e0 0;e0 0;e0 0;e0 0;e0 0;");
        Edge.due("forget(0) of an empty head", x.forget(0), 0);
        for (int e = 0; e < 6; e++) {
            x.hire(0, e);
        }
        x.night(1);
        x.hire(1, 5);
        Edge.due("forget(0) of a full head", x.forget(0), 63);
        Edge.due("guide(0, 3)", x.guide(0, 3), 0);
        Edge.due("guide(0, 2): what he knows stays", x.guide(0, 2), 1);
        Edge.due("guide(1, 3): another has not forgotten", x.guide(1, 3), 32);
        Edge.due("told(7): the client is home", x.told(7), 32);
        Edge.due("forget(0) again", x.forget(0), 0);
    }

    private static void drift() {
        Edge.says(15, "n NIGHTS (1 .. 60) BY DRAWS: PAID (in all).");
        BlindGuides x = Check.cityOf("n2;c0 1 1 1;g0 99 3;e0 1;e1 1;");
        x.hire(0, 0);
        x.night(1);
        int paid = x.drift(1);
        Edge.due("told(4) behind drift(1)", x.told(4), 2);
        Edge.due("told(8): with what was paid before", x.told(8), paid);
        Edge.due("at least what was paid before", paid >= 99 ? 1 : 0, 1);
        paid = x.drift(60);
        Edge.due("told(4) behind drift(60)", x.told(4), 62);
        Edge.due("told(8)", x.told(8), paid);
        Edge.due("told(13): one deed each", x.told(13), 4);
        // n nights are as n times one night
        BlindGuides once = Check.cityOf(ROW + "g0 7 255;g3 9 61;e0 3;e2 0;e1 7;m4,5;");
        BlindGuides often = Check.cityOf(ROW + "g0 7 255;g3 9 61;e0 3;e2 0;e1 7;m4,5;");
        once.seed(4711);
        often.seed(4711);
        for (int i = 0; i < 60; i++) {
            paid = often.drift(1);
        }
        Edge.due("drift(60)", once.drift(60), paid);
        for (int what = 0; what < 13; what++) {
            Edge.due("told(" + what + ")", once.told(what), often.told(what));
        }
        Edge.due("the seed", once.seed(0), often.seed(0));
    }

    private static final class Draws {
        private long seed;

        private int of(int n) {
            seed = (seed * 1103515245L + 12345L) % 2147483648L;
            return (int) (seed / 65536 % n);
        }
    }

    /** Guides who know all lead client 0 from 0 to 2, the others no street. */
    private static void driftByDraws() {
        Edge.says(15, "ahead of the end of each, if there are GUIDES and CLIENTS, three times a DRAW of GUIDES, of CLIENTS: he is HIRED, if that can be; "
            + "then a DRAW of 6: on 0 a DRAW of N: a WALL is built there, if there is none, else torn down.");
        for (int guides = 0; guides <= 6; guides++) {
            for (int clients = 0; clients <= 6; clients += guides == 1 ? 1 : 2) {
                driftByDraws(guides, clients, 12345 + guides * 7 + clients);
            }
        }
        driftByDraws(1, 1, MOST);
        driftByDraws(2, 3, MOST - 1);
    }

    private static void driftByDraws(int guides, int clients, int first) {
        StringBuilder text = new StringBuilder("n3;c0 1 1 1;c0 2 2 2;m5,4;");
        for (int g = 0; g < guides; g++) {
            text.append("g0 ").append(3 + g).append(" 7;");
        }
        for (int e = 0; e < clients; e++) {
            text.append(e == 0 ? "e0 2;" : "e1 1;");
        }
        BlindGuides x = Check.cityOf(text.toString());
        x.seed(first);
        Draws draws = new Draws();
        draws.seed = first;
        int walls = 0;
        int paid = 0;
        int[] heads = new int[6];
        for (int night = 0; night < 40; night++) {
            int home = 0;
            for (int i = 0; i < 3 && guides > 0 && clients > 0; i++) {
                int g = draws.of(guides);
                int e = draws.of(clients);
                if ((home >> e & 1) == 0 && (e > 0 || (walls & 6) == 0)) {
                    home |= 1 << e;
                    heads[g] |= 1 << e;
                    paid += e > 0 ? 0 : night % 2 == 0 ? 3 + g : 2 * (3 + g);
                }
            }
            if (draws.of(6) == 0) {
                walls ^= 1 << draws.of(3);
            }
            Edge.due("drift(1) in night " + night + " of " + text, x.drift(1), paid);
            Edge.due("told(6)", x.told(6), walls);
            Edge.due("told(7): the night has passed", x.told(7), 0);
        }
        for (int g = 0; g < guides; g++) {
            Edge.due("guide(" + g + ", 3)", x.guide(g, 3), heads[g]);
        }
        Edge.due("the seed", x.seed(0), (int) draws.seed);
    }

    private static void undo() {
        Edge.says(16, "The latest is undone: how many more can be. NOT: none.");
        BlindGuides x = Check.cityOf(Edge.CITY);
        Edge.due("undo() ahead of all", x.undo(), NOT);
        x.night(2);
        x.night(3);
        Edge.due("undo()", x.undo(), 1);
        Edge.due("told(4)", x.told(4), 2);
        x.night(4);
        Edge.due("undo() behind undo() and a deed", x.undo(), 1);
        Edge.due("told(4)", x.told(4), 2);
        Edge.due("undo()", x.undo(), 0);
        Edge.due("told(4)", x.told(4), 0);
        Edge.due("undo() of none", x.undo(), NOT);
        Edge.due("told(4)", x.told(4), 0);
        Edge.changesNothing("undo() of none", NOT, BlindGuides::undo, () -> {
            BlindGuides y = Edge.muchDone();
            y.undo();
            y.undo();
            return y;
        });
        Edge.says(16, "UNDONE: the latest of night(), hire(), nowhere(), wall(), learn(), forget(), drift() that was not refused");
        BlindGuides y = Check.cityOf(Edge.CITY);
        y.night(5);
        y.night(0);
        y.drift(61);
        y.hire(1, 1);
        y.hire(9, 0);
        y.nowhere(1, 0);
        y.nowhere(3, 1);
        y.wall(4, true);
        y.learn(0, 0);
        y.learn(0, 4);
        y.forget(3);
        y.seed(5);
        y.begin(1);
        y.hear(0, 2);
        y.write(0, 1);
        y.tear();
        y.begin(1);
        y.write(1, 1);
        y.feed('n');
        Edge.due("told(13): one alone was not refused", y.told(13), 1);
        Edge.due("undo()", y.undo(), 0);
        Edge.due("told(4)", y.told(4), 0);
        Edge.due("told(3): letters stay", y.told(3), 1);
        Edge.due("told(10): what was heard stays", y.told(10), 0);
        Edge.due("told(12): the book stays", y.told(12), 1);
        Edge.due("seed(0): the seed stays", y.seed(0), 5);
    }

    /** All of section 2, and the seed. */
    private static List<Integer> look(BlindGuides x) {
        List<Integer> all = new ArrayList<>();
        for (int what : new int[] {4, 5, 6, 7, 8, 9}) {
            all.add(x.told(what));
        }
        for (int g = 0; g < 3; g++) {
            for (int what = 0; what < 5; what++) {
                all.add(x.guide(g, what));
            }
        }
        for (int e = 0; e < 2; e++) {
            all.add(x.client(e, 2));
        }
        return all;
    }

    private static void undoEach() {
        Edge.says(16, "all of section 2 is as ahead of it; THE SEED stays.");
        String[] names = {"night(60)", "hire(0, 1)", "hire(2, 0), no street", "nowhere(0, 20)", "nowhere(1, 1), no street", "wall(2, true)", "wall(2, false)",
            "learn(1, 0)", "forget(2)", "forget(0), empty", "drift(60)", "drift(1)"};
        Edge.Call[] deeds = {x -> x.night(60), x -> x.hire(0, 1), x -> x.hire(2, 0), x -> x.nowhere(0, 20), x -> x.nowhere(1, 1), x -> x.wall(2, true),
            x -> x.wall(2, false), x -> x.learn(1, 0), x -> x.forget(2), x -> x.forget(0), x -> x.drift(60), x -> x.drift(1)};
        for (int i = 0; i < deeds.length; i++) {
            BlindGuides x = Check.cityOf("n4;c1 1 2 0;c2 3 2 1;c1 3 0 2;g0 10 15;g1 5 6;g3 7 9;e3 3;e1 0;m1,6,9;");
            x.night(4);
            x.hire(2, 0);
            x.wall(3, true);
            x.night(1);
            List<Integer> ahead = look(x);
            x.seed(1);
            Edge.due(names[i] + " is not refused", deeds[i].on(x) >= 0 ? 1 : 0, 1);
            int seed = x.seed(99);
            Edge.due("the seed behind " + names[i] + " is another", seed != 1 ? 1 : 0, names[i].startsWith("drift") ? 1 : 0);
            Edge.due("undo() of " + names[i], x.undo(), 4);
            Edge.due("all is as ahead of " + names[i], look(x).equals(ahead) ? 1 : 0, 1);
            Edge.due("seed(0): the seed stays", x.seed(0), 99);
        }
    }

    private static void undoKeepsSixteen() {
        Edge.says(16, "(16 at most are kept, the oldest are lost)");
        for (int deeds : new int[] {15, 16, 17, 32, 33, 50}) {
            BlindGuides x = Check.cityOf("n1;");
            for (int i = 1; i <= deeds; i++) {
                x.night(i);
                Edge.due("told(13) behind deed " + i, x.told(13), Math.min(i, 16));
            }
            for (int i = deeds; i > Math.max(deeds - 16, 0); i--) {
                Edge.due("undo() of deed " + i, x.undo(), i - 1 - Math.max(deeds - 16, 0));
                Edge.due("told(4)", x.told(4), i * (i - 1) / 2);
            }
            Edge.due("undo() of what is lost", x.undo(), NOT);
            Edge.due("told(13)", x.told(13), 0);
        }
        BlindGuides x = Check.cityOf("n1;");
        List<Integer> past = new ArrayList<>();
        for (int i = 0; i < 100; i++) {
            if (i % 7 < 5) {
                past.add(x.told(4));
                x.night(1 + i % 9);
            } else {
                x.undo();
                Edge.due("told(4) behind undo() in round " + i, x.told(4), past.remove(past.size() - 1));
            }
        }
        Edge.due("told(13)", x.told(13), 16);
    }

    private static void seed() {
        Edge.says(33, "THE SEED becomes v (0 .. 2147483647): what it was. OUTSIDE.");
        BlindGuides x = new BlindGuides();
        int was = 0;
        for (int v : new int[] {MOST, 0, 1, MOST - 1, 65536, 1 << 30}) {
            Edge.due("seed(" + v + ")", x.seed(v), was);
            was = v;
        }
        for (int v : new int[] {-1, LEAST, LEAST + 1, UNKNOWN}) {
            Edge.changesNothing("seed(" + v + ")", OUTSIDE, y -> y.seed(v));
            Edge.due("seed(" + v + ") of no city", x.seed(v), OUTSIDE);
        }
        Edge.due("seed(0): refused ones are no seed", x.seed(0), 1 << 30);
        Edge.says(33, "it becomes it times 1103515245 and 12345, left over by 2 to the 31");
        for (int v : new int[] {0, 1, 2, 12345, 65535, 65536, 1 << 30, MOST - 1, MOST}) {
            BlindGuides y = Check.cityOf("n5;");
            Draws draws = new Draws();
            draws.seed = v;
            y.seed(v);
            int walls = draws.of(6) == 0 ? 1 << draws.of(5) : 0;
            y.drift(1);
            Edge.due("told(6) by seed " + v, y.told(6), walls);
            Edge.due("the seed behind " + v, y.seed(v), (int) draws.seed);
        }
    }

    private static void keep() {
        Edge.says(34, "IMAGE i becomes what is so (nothing can be undone then): 1. UNKNOWN.");
        Edge.changesNothing("keep(2)", UNKNOWN, x -> x.keep(2));
        for (int far : FAR) {
            Edge.changesNothing("keep(" + far + ")", UNKNOWN, x -> x.keep(far));
        }
        for (int i = 0; i < 2; i++) {
            BlindGuides x = Check.cityOf(Edge.CITY);
            x.night(3);
            x.begin(1);
            x.write(0, 3);
            x.feed('n');
            x.seed(7);
            Edge.due("told(13) ahead", x.told(13), 1);
            Edge.due("keep(" + i + ")", x.keep(i), 1);
            Edge.due("told(13)", x.told(13), 0);
            Edge.due("undo()", x.undo(), NOT);
            Edge.due("told(4): what is so stays so", x.told(4), 3);
            Edge.due("told(3)", x.told(3), 1);
            Edge.due("told(10)", x.told(10), 0);
            Edge.due("told(12)", x.told(12), 1);
            Edge.due("the other image is not kept", x.goBack(1 - i), NOT);
            x.night(1);
            Edge.due("undo() of a deed behind it", x.undo(), 0);
            x.night(2);
            Edge.due("keep(" + i + ") again", x.keep(i), 1);
            x.night(2);
            x.goBack(i);
            Edge.due("told(4): the image kept last", x.told(4), 5);
        }
    }

    private static void goBack() {
        Edge.says(35, "What is so becomes IMAGE i (nothing can be undone then): 1. UNKNOWN, NOT: it was not kept.");
        Edge.changesNothing("goBack(2)", UNKNOWN, x -> x.goBack(2));
        for (int far : FAR) {
            Edge.changesNothing("goBack(" + far + ")", UNKNOWN, x -> x.goBack(far));
        }
        for (int i = 0; i < 2; i++) {
            int other = 1 - i;
            Edge.changesNothing("goBack(" + other + ")", NOT, x -> x.goBack(other), () -> {
                BlindGuides x = Check.cityOf(Edge.CITY);
                x.night(1);
                x.keep(1 - other);
                x.hire(0, 0);
                x.seed(3);
                x.begin(1);
                x.write(0, 0);
                return x;
            });
        }
        BlindGuides both = Check.cityOf("n1;");
        for (int i = 0; i < 6; i++) {
            both.seed(i);
            both.night(1 + i);
            both.keep(i % 2);
        }
        for (int i = 0; i < 4; i++) {
            Edge.due("goBack(" + i % 2 + ") of two that were kept", both.goBack(i % 2), 1);
            Edge.due("told(4)", both.told(4), i % 2 == 0 ? 15 : 21);
            Edge.due("the seed", both.seed(99), 4 + i % 2);
            both.night(1);
        }
        BlindGuides none = new BlindGuides();
        Edge.due("goBack(2) of no city", none.goBack(2), UNKNOWN);
        Edge.due("goBack(1) of no city", none.goBack(1), NOT);
        Edge.says(35, "IMAGES 0, 1 keep all of section 2, THE SEED.");
        for (int i = 0; i < 2; i++) {
            BlindGuides x = Check.cityOf(Edge.CITY);
            x.night(3);
            x.hire(0, 0);
            x.wall(2, true);
            x.learn(1, 0);
            x.seed(1234567);
            List<Integer> kept = look(x);
            x.keep(i);
            for (int round = 0; round < 2; round++) {
                x.seed(5);
                x.drift(20);
                x.forget(0);
                x.learn(2, 1);
                x.begin(1);
                x.write(0, 3);
                Edge.due("goBack(" + i + ")", x.goBack(i), 1);
                Edge.due("all is as it was kept", look(x).equals(kept) ? 1 : 0, 1);
                Edge.due("told(13)", x.told(13), 0);
                Edge.due("undo()", x.undo(), NOT);
                x.night(2);
                Edge.due("undo() of a deed behind it", x.undo(), 0);
                Edge.due("all is as it was kept, undone", look(x).equals(kept) ? 1 : 0, 1);
                Edge.due("told(10): what was heard stays", x.told(10), 0);
                Edge.due("told(12): the book stays", x.told(12), round + 1);
                Edge.due("the seed", x.seed(8), 1234567);
            }
        }
    }
}
