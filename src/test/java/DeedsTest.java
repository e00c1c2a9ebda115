/** Promises 9 to 16 and 33 to 35: what is done, what is undone, draws and images. */
public final class DeedsTest {
    private static final int NONE = -1, UNKNOWN = -1000000001, OUTSIDE = -1000000002, NOT = -1000000003, FULL = -1000000004;
    /** A row of four crossings by turn 0; by turn 1 one goes back to 0, by turn 2 one stays. */
    private static final String ROW = "n4;c0 1 0 0;c1 2 0 1;c2 3 0 2;c3 3 0 3;g0 7 15;g3 9 13;e0 3;e2 0;e1 1;m4,5;";

    public static void main(String[] args) {
        night();
        hire();
        hireUpToTheMost();
        nowhere();
        wall();
        learn();
        forget();
        drift();
        driftWithHires();
        driftWithoutHires("n5;g0 1 31;");
        driftWithoutHires("n5;e0 0;");
        driftWithoutHires("n5;");
        undo();
        undoKeepsSixteen();
        seed();
        images();
        Check.end();
    }

    private static void night() {
        BlindGuides x = Check.cityOf(ROW);
        Check.due("hire(0, 0)", x.hire(0, 0), 21);
        Check.due("night(0)", x.night(0), OUTSIDE);
        Check.due("night(61)", x.night(61), OUTSIDE);
        Check.due("told(7) ahead of a night", x.told(7), 1);
        Check.due("night(1)", x.night(1), 1);
        Check.due("told(7) behind a night", x.told(7), 0);
        Check.due("guides stay where they stand", x.guide(0, 0), 3);
        Check.due("heads stay", x.guide(0, 3), 1);
        for (int i = 1; i <= 149; i++) {
            x.night(60);
        }
        Check.due("night(59) to 9000", x.night(59), 9000);
        Check.due("night(60) at 9000", x.night(60), 9060);
        Check.due("night(1) above 9000", x.night(1), FULL);
        Check.due("drift(1) above 9000", x.drift(1), FULL);
        Check.due("night(61) above 9000", x.night(61), OUTSIDE);
        Check.due("undo() of the last night(60)", x.undo(), 15);
        Check.due("night(1) at 9000 again", x.night(1), 9001);
        Check.due("night(1) above 9000 again", x.night(1), FULL);
        BlindGuides none = new BlindGuides();
        Check.due("night(1) of no city", none.night(1), NOT);
        Check.due("night(61) of no city", none.night(61), OUTSIDE);
        Check.due("drift(1) of no city", none.drift(1), NOT);
        Check.due("drift(0) of no city", none.drift(0), OUTSIDE);
    }

    private static void hire() {
        BlindGuides x = Check.cityOf(ROW);
        Check.due("hire(2, 0)", x.hire(2, 0), UNKNOWN);
        Check.due("hire(0, 3)", x.hire(0, 3), UNKNOWN);
        Check.due("hire(-1, -1)", x.hire(-1, -1), UNKNOWN);
        Check.due("a guide who does not know the way", x.hire(1, 0), NOT);
        Check.due("nothing to undo yet", x.told(13), 0);
        Check.due("hire(1, 1)", x.hire(1, 1), 9);
        Check.due("he stands at T", x.guide(1, 0), 0);
        Check.due("a client who is home", x.hire(0, 1), NOT);
        Check.due("one who need go nowhere", x.hire(1, 2), 0);
        Check.due("he stands at a T that he does not know", x.guide(1, 0), 1);
        Check.due("his head", x.guide(1, 3), 6);
        Check.due("told(7)", x.told(7), 6);
        x.night(1);
        Check.due("half of 21, cut, with moon 5", x.hire(0, 0), 10);
        Check.due("told(8)", x.told(8), 19);
        x.night(1);
        Check.due("all with moon 4", x.hire(0, 0), 21);
        x.night(1);
        x.wall(2, true);
        Check.due("a wall in the way", x.hire(0, 0), NOT);
        Check.due("a wall where the client is", x.hire(0, 1), 3);
        x.wall(1, true);
        Check.due("a wall where the client is and goes", x.hire(0, 2), 0);
    }

    /** Clients of seven streets each, who pay 7 times 98 (999999 is no multiple of it), in 512 calls at most. */
    private static void hireUpToTheMost() {
        BlindGuides x = Check.cityOf("n8;c0 1 1 1;c0 2 2 2;c0 3 3 3;c0 4 4 4;c0 5 5 5;c0 6 6 6;c0 7 7 7;g0 98 255;e0 7;e0 7;e0 7;e0 7;e0 7;");
        int paid = 0;
        for (int i = 0; i < 9; i++) {
            // a seed by whose draws no wall is built on the way
            x.seed(161313);
            paid = x.drift(60);
        }
        Check.due("drift(60), nine times", paid, 9 * 150 * 686);
        for (int i = 0; i < 100 && paid < 994000; i++) {
            x.seed(161313);
            paid = x.drift(1);
        }
        int ahead = 0;
        for (int i = 0; i < 20 && paid < 999999; i++) {
            if (x.told(7) == 31) {
                x.night(1);
            }
            int e = Integer.numberOfTrailingZeros(~x.told(7));
            ahead = paid;
            Check.due("leads(0, " + e + ", 1)", x.leads(0, e, 1), 686);
            Check.due("hire(0, " + e + ") at " + ahead, x.hire(0, e), 686);
            paid = x.told(8);
            Check.due("told(8) behind " + ahead, paid, Math.min(ahead + 686, 999999));
        }
        Check.due("told(8) ahead of the hire that passes the most", ahead, 999502);
        Check.due("told(8): the most", x.told(8), 999999);
        x.undo();
        Check.due("told(8) with that hire undone", x.told(8), 999502);
        x.night(1);
        Check.due("the hire that passes the most, once more", x.hire(0, 4), 686);
        x.night(1);
        Check.due("leads(0, 0, 1) at the most", x.leads(0, 0, 1), 686);
        Check.due("hire(0, 0) at the most", x.hire(0, 0), 686);
        Check.due("told(8) cannot rise", x.told(8), 999999);
        Check.due("the client is home all the same", x.told(7), 1);
        Check.due("match(-3) at the most", x.match(-3), 686);
        Check.due("drift(60) at the most", x.drift(60), 999999);
    }

    private static void nowhere() {
        BlindGuides x = Check.cityOf(ROW);
        Check.due("nowhere(2, 0)", x.nowhere(2, 0), UNKNOWN);
        Check.due("nowhere(0, 0)", x.nowhere(0, 0), OUTSIDE);
        Check.due("nowhere(0, 21)", x.nowhere(0, 21), OUTSIDE);
        Check.due("nowhere(0, 1)", x.nowhere(0, 1), 1);
        Check.due("nowhere(0, 20)", x.nowhere(0, 20), 3);
        Check.due("nobody pays", x.told(8), 0);
        Check.due("heads stay empty", x.guide(0, 3), 0);
        x.hire(0, 1);
        x.wall(2, true);
        Check.due("till a wall", x.nowhere(0, 20), 1);
        Check.due("not at all", x.nowhere(0, 1), 1);
        Check.due("that too can be undone", x.told(13), 6);
        x.hire(1, 1);
        Check.due("till what he does not know", x.nowhere(1, 5), 3);
        BlindGuides ring = Check.cityOf("n3;c0 1 1 1;c0 2 2 2;c0 0 0 0;g0 1 7;");
        Check.due("nowhere(0, 20) in a ring of 3", ring.nowhere(0, 20), 2);
        Check.due("nowhere(0, 2) in a ring of 3", ring.nowhere(0, 2), 1);
    }

    private static void wall() {
        BlindGuides x = Check.cityOf(ROW);
        Check.due("wall(4, true)", x.wall(4, true), UNKNOWN);
        Check.due("wall(-1, false)", x.wall(-1, false), UNKNOWN);
        Check.due("wall(1, false)", x.wall(1, false), 0);
        Check.due("wall(1, true)", x.wall(1, true), 0);
        Check.due("wall(3, true)", x.wall(3, true), 0);
        Check.due("told(6)", x.told(6), 10);
        Check.due("wall(1, true) again", x.wall(1, true), 1);
        Check.due("wall(1, false)", x.wall(1, false), 1);
        Check.due("told(6)", x.told(6), 8);
        Check.due("told(13)", x.told(13), 5);
        x.night(1);
        Check.due("walls stay by night", x.told(6), 8);
    }

    private static void learn() {
        BlindGuides x = Check.cityOf(ROW);
        Check.due("learn(2, 0)", x.learn(2, 0), UNKNOWN);
        Check.due("learn(0, 4)", x.learn(0, 4), UNKNOWN);
        Check.due("learn(0, -1)", x.learn(0, -1), UNKNOWN);
        Check.due("learn(1, 3)", x.learn(1, 3), NOT);
        Check.due("told(13)", x.told(13), 0);
        Check.due("way(1, 0, 3) ahead", x.way(1, 0, 3), NONE);
        Check.due("learn(1, 1)", x.learn(1, 1), 15);
        Check.due("guide(1, 2)", x.guide(1, 2), 15);
        Check.due("way(1, 0, 3) behind", x.way(1, 0, 3), 3);
        Check.due("learn(1, 1) again", x.learn(1, 1), NOT);
        Check.due("told(13)", x.told(13), 1);
    }

    private static void forget() {
        BlindGuides x = Check.cityOf(ROW);
        Check.due("forget(2)", x.forget(2), UNKNOWN);
        Check.due("forget(-1)", x.forget(-1), UNKNOWN);
        x.hire(0, 0);
        x.hire(0, 2);
        Check.due("forget(0)", x.forget(0), 5);
        Check.due("guide(0, 3)", x.guide(0, 3), 0);
        Check.due("guide(0, 2): what he knows stays", x.guide(0, 2), 15);
        Check.due("forget(0) again", x.forget(0), 0);
        Check.due("told(13)", x.told(13), 4);
    }

    private static void drift() {
        BlindGuides x = Check.cityOf(ROW);
        Check.due("drift(0)", x.drift(0), OUTSIDE);
        Check.due("drift(61)", x.drift(61), OUTSIDE);
        x.seed(123456789);
        int paid = x.drift(60);
        Check.due("told(8)", x.told(8), paid);
        Check.due("told(4)", x.told(4), 60);
        Check.due("told(7): a night has passed", x.told(7), 0);
        int seed = x.seed(0);
        Check.due("undo()", x.undo(), 0);
        Check.due("told(8) undone", x.told(8), 0);
        Check.due("told(4) undone", x.told(4), 0);
        Check.due("the seed stays as it was set", x.seed(123456789), 0);
        Check.due("drift(60) by the same seed", x.drift(60), paid);
        Check.due("the seed behind it", x.seed(0), seed);
    }

    /** The draws told by hand: two guides who ask 1 for the one street to client 0, of three clients. */
    private static void driftWithHires() {
        BlindGuides x = Check.cityOf("n5;c0 1 1 1;g0 1 31;g0 1 31;e0 1;e2 3;e2 4;");
        long seed = 7;
        int walls = 0;
        int paid = 0;
        x.seed(7);
        for (int night = 1; night <= 60; night++) {
            boolean home = false;
            for (int i = 0; i < 3; i++) {
                seed = (seed * 1103515245L + 12345L) % 2147483648L;
                seed = (seed * 1103515245L + 12345L) % 2147483648L;
                if (seed / 65536 % 3 == 0 && !home && (walls >> 1 & 1) == 0) {
                    home = true;
                    paid++;
                }
            }
            seed = (seed * 1103515245L + 12345L) % 2147483648L;
            if (seed / 65536 % 6 == 0) {
                seed = (seed * 1103515245L + 12345L) % 2147483648L;
                walls ^= 1 << (int) (seed / 65536 % 5);
            }
            Check.due("drift(1) in night " + night, x.drift(1), paid);
            Check.due("walls of night " + night, x.told(6), walls);
        }
        Check.due("the seed behind 60 nights", x.seed(0), seed);
    }

    /** The draws of a city without clients, or without guides: one of 6 a night, and one of N behind a 0. */
    private static void driftWithoutHires(String city) {
        BlindGuides x = Check.cityOf(city);
        long seed = 42;
        int walls = 0;
        x.seed(42);
        for (int night = 1; night <= 40; night++) {
            seed = (seed * 1103515245L + 12345L) % 2147483648L;
            if (seed / 65536 % 6 == 0) {
                seed = (seed * 1103515245L + 12345L) % 2147483648L;
                walls ^= 1 << (int) (seed / 65536 % 5);
            }
            Check.due("drift(1) without hires", x.drift(1), 0);
            Check.due("walls of night " + night, x.told(6), walls);
            Check.due("told(4)", x.told(4), night);
        }
        Check.due("the seed behind 40 nights", x.seed(0), seed);
    }

    private static void undo() {
        BlindGuides x = Check.cityOf(ROW);
        Check.due("undo() of nothing", x.undo(), NOT);
        x.hire(0, 0);
        x.night(3);
        x.wall(1, true);
        x.learn(1, 1);
        x.nowhere(1, 1);
        x.forget(0);
        x.drift(2);
        Check.due("told(13)", x.told(13), 7);
        Check.due("undo() of drift", x.undo(), 6);
        Check.due("told(4)", x.told(4), 3);
        Check.due("undo() of forget", x.undo(), 5);
        Check.due("guide(0, 3)", x.guide(0, 3), 1);
        Check.due("undo() of nowhere", x.undo(), 4);
        Check.due("undo() of learn", x.undo(), 3);
        Check.due("guide(1, 2)", x.guide(1, 2), 13);
        Check.due("undo() of wall", x.undo(), 2);
        Check.due("told(6)", x.told(6), 0);
        Check.due("undo() of night", x.undo(), 1);
        Check.due("told(4)", x.told(4), 0);
        Check.due("told(7)", x.told(7), 1);
        Check.due("told(8)", x.told(8), 21);
        x.begin(0);
        x.write(0, 0);
        Check.due("undo() of hire", x.undo(), 0);
        Check.due("told(7)", x.told(7), 0);
        Check.due("told(8)", x.told(8), 0);
        Check.due("guide(0, 0)", x.guide(0, 0), 0);
        Check.due("what was heard stays", x.told(10), 0);
        Check.due("the book stays", x.told(12), 1);
        Check.due("undo() of no more", x.undo(), NOT);
    }

    private static void undoKeepsSixteen() {
        BlindGuides x = Check.cityOf(ROW);
        for (int i = 1; i <= 20; i++) {
            x.night(1);
            Check.due("told(13) behind " + i, x.told(13), Math.min(i, 16));
        }
        for (int i = 1; i <= 16; i++) {
            Check.due("undo() " + i, x.undo(), 16 - i);
            Check.due("told(4) behind undo " + i, x.told(4), 20 - i);
        }
        Check.due("undo() of what is lost", x.undo(), NOT);
        Check.due("told(4)", x.told(4), 4);
    }

    private static void seed() {
        BlindGuides x = Check.cityOf(ROW);
        Check.due("seed(2147483647)", x.seed(2147483647), 0);
        Check.due("seed(-1)", x.seed(-1), OUTSIDE);
        Check.due("seed(-2147483648)", x.seed(-2147483648), OUTSIDE);
        Check.due("seed(3)", x.seed(3), 2147483647);
        Check.due("seed(0)", x.seed(0), 3);
    }

    private static void images() {
        BlindGuides x = Check.cityOf(ROW);
        Check.due("keep(2)", x.keep(2), UNKNOWN);
        Check.due("keep(-1)", x.keep(-1), UNKNOWN);
        Check.due("goBack(2)", x.goBack(2), UNKNOWN);
        Check.due("goBack(-1)", x.goBack(-1), UNKNOWN);
        Check.due("goBack(1)", x.goBack(1), NOT);
        x.hire(0, 0);
        x.wall(1, true);
        x.learn(1, 1);
        x.seed(5);
        Check.due("keep(1)", x.keep(1), 1);
        Check.due("undo() behind keep", x.undo(), NOT);
        x.forget(0);
        x.drift(9);
        Check.due("keep(0)", x.keep(0), 1);
        x.begin(0);
        x.write(1, 1);
        x.wall(2, true);
        Check.due("goBack(1)", x.goBack(1), 1);
        Check.due("undo() behind goBack", x.undo(), NOT);
        int[] told = {4, 2, 3, 0, 0, 4, 2, 1, 21, 1, 0, 1, 1, 0};
        for (int what = 0; what < told.length; what++) {
            Check.due("told(" + what + ") of image 1", x.told(what), told[what]);
        }
        Check.due("guide(1, 2) of image 1", x.guide(1, 2), 15);
        Check.due("guide(0, 0) of image 1", x.guide(0, 0), 3);
        Check.due("the seed of image 1", x.seed(6), 5);
        x.night(1);
        Check.due("an image can be gone back to again", x.goBack(1), 1);
        Check.due("told(4) of image 1", x.told(4), 0);
        Check.due("goBack(0)", x.goBack(0), 1);
        Check.due("told(4) of image 0", x.told(4), 9);
        BlindGuides none = new BlindGuides();
        Check.due("keep(0) of no city", none.keep(0), 1);
        Check.due("goBack(0) of no city", none.goBack(0), 1);
    }
}
