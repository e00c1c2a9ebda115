/** Promises 26 to 32: each sentence of the document that names an edge, in the document's order. */
public final class EdgesHeardTest {
    private static final int NONE = -1, UNKNOWN = -1000000001, OUTSIDE = -1000000002, NOT = -1000000003, FULL = -1000000004;
    private static final int LEAST = Edge.LEAST, MOST = Edge.MOST;
    private static final int[] FAR = {LEAST, -1000000001, -2, -1, 256, 65536, MOST};
    /** Sounds 0 1 1 3 4 5. By turn 0: 3 3 4 0 1 5; by turn 1: 1 4 3 3 4 5; by turn 2 all stay. */
    private static final String ECHOES = "n6;c0 3 1 0;c1 3 4 1;c1 4 3 2;c3 0 3 3;c4 1 4 4;c5 5 5 5;g0 1 63;g4 1 63;e0 1;e3 3;";

    public static void main(String[] args) {
        begin();
        hear();
        hearEight();
        heardSets();
        began();
        listen();
        listenOfLikeOnes();
        write();
        writeFifteen();
        tear();
        judge();
        Check.end();
    }

    private static void begin() {
        Edge.says(26, "HEARD where one began (0 .. 5; all that was HEARD ahead is gone): CROSSINGS of HERE (a SET). OUTSIDE.");
        Edge.changesNothing("begin(6)", OUTSIDE, x -> x.begin(6));
        for (int far : FAR) {
            Edge.changesNothing("begin(" + far + ")", OUTSIDE, x -> x.begin(far));
        }
        BlindGuides x = Check.cityOf(ECHOES);
        Edge.due("begin(6) ahead of all", x.begin(6), OUTSIDE);
        Edge.due("told(10)", x.told(10), NONE);
        int[] here = {1, 6, 0, 8, 16, 32};
        for (int sound = 0; sound < 6; sound++) {
            Edge.due("begin(" + sound + ")", x.begin(sound), here[sound]);
            Edge.due("told(10)", x.told(10), 0);
            Edge.due("told(11)", x.told(11), here[sound]);
            Edge.due("began()", x.began(), here[sound]);
            for (int i = 1; i <= 8; i++) {
                Edge.due("hear(2, " + sound + ")", x.hear(2, sound), here[sound]);
                Edge.due("told(10)", x.told(10), i);
            }
        }
        x.begin(1);
        x.hear(0, 5);
        Edge.due("begin(1): what could not be is gone", x.begin(1), 6);
        Edge.due("begun with none of a sound", x.begin(2), 0);
        Edge.due("begin(1) behind it", x.begin(1), 6);
        BlindGuides none = new BlindGuides();
        Edge.due("begin(6) of no city", none.begin(6), OUTSIDE);
        Edge.due("begin(0) of no city", none.begin(0), 0);
        Edge.due("told(10) of no city", none.told(10), 0);
        Edge.due("began() of no city", none.began(), 0);
    }

    private static void hear() {
        Edge.says(27, "HEARD behind a TURN (0 .. 2): CROSSINGS of HERE (a SET). OUTSIDE, NOT: one has not begun; FULL: 8 TURNS.");
        Edge.changesNothing("hear(3, 0)", OUTSIDE, x -> x.hear(3, 0));
        Edge.changesNothing("hear(0, 6)", OUTSIDE, x -> x.hear(0, 6));
        Edge.changesNothing("hear(3, 6)", OUTSIDE, x -> x.hear(3, 6));
        for (int far : FAR) {
            Edge.changesNothing("hear(" + far + ", 0)", OUTSIDE, x -> x.hear(far, 0));
            Edge.changesNothing("hear(0, " + far + ")", OUTSIDE, x -> x.hear(0, far));
        }
        BlindGuides torn = Check.cityOf(ECHOES);
        torn.begin(1);
        torn.tear();
        BlindGuides anew = Check.cityOf(ECHOES);
        anew.begin(1);
        Check.feed(anew, ECHOES);
        anew.city();
        for (BlindGuides x : new BlindGuides[] {new BlindGuides(), Check.cityOf(ECHOES), torn, anew}) {
            for (int turn = 0; turn < 3; turn++) {
                for (int sound = 0; sound < 6; sound++) {
                    Edge.due("hear(" + turn + ", " + sound + ") of one who has not begun", x.hear(turn, sound), NOT);
                }
            }
            Edge.due("hear(3, 0) of one who has not begun", x.hear(3, 0), OUTSIDE);
            Edge.due("hear(-1, 0) of one who has not begun", x.hear(-1, 0), OUTSIDE);
            Edge.due("hear(0, 6) of one who has not begun", x.hear(0, 6), OUTSIDE);
            Edge.due("hear(0, -1) of one who has not begun", x.hear(0, -1), OUTSIDE);
            Edge.due("told(10)", x.told(10), NONE);
            Edge.due("told(11)", x.told(11), 0);
            Edge.due("began()", x.began(), 0);
        }
        Edge.changesNothing("hear(0, 0) of one who has not begun", NOT, x -> x.hear(0, 0), () -> {
            BlindGuides x = Check.cityOf(Edge.CITY);
            x.hire(0, 0);
            x.write(0, 0);
            return x;
        });
    }

    private static BlindGuides eightHeard() {
        BlindGuides x = Check.cityOf(ECHOES);
        x.hire(0, 0);
        x.write(0, 0);
        x.begin(1);
        for (int i = 0; i < 8; i++) {
            x.hear(2, 1);
        }
        return x;
    }

    private static void hearEight() {
        Edge.says(27, "HEARD: a row of SOUNDS as one went: SOUND where one began, then TURN and SOUND, and so on (8 TURNS at most).");
        BlindGuides x = eightHeard();
        Edge.due("told(10)", x.told(10), 8);
        Edge.due("told(11)", x.told(11), 6);
        for (int turn = 0; turn < 3; turn++) {
            int t = turn;
            Edge.changesNothing("hear(" + t + ", 1): the ninth", FULL, y -> y.hear(t, 1), EdgesHeardTest::eightHeard);
        }
        Edge.changesNothing("hear(3, 1): the ninth", OUTSIDE, y -> y.hear(3, 1), EdgesHeardTest::eightHeard);
        Edge.changesNothing("hear(-1, 1): the ninth", OUTSIDE, y -> y.hear(-1, 1), EdgesHeardTest::eightHeard);
        Edge.changesNothing("hear(0, 6): the ninth", OUTSIDE, y -> y.hear(0, 6), EdgesHeardTest::eightHeard);
        Edge.changesNothing("hear(0, -1): the ninth", OUTSIDE, y -> y.hear(0, -1), EdgesHeardTest::eightHeard);
        Edge.changesNothing("begin(6): behind eight", OUTSIDE, y -> y.begin(6), EdgesHeardTest::eightHeard);
        Edge.due("begin(1)", x.begin(1), 6);
        for (int i = 1; i <= 8; i++) {
            Edge.due("hear(2, 1)", x.hear(2, 1), 6);
        }
        Edge.due("hear(2, 1): the ninth", x.hear(2, 1), FULL);
        // what cannot be is heard all the same, up to eight
        x.begin(2);
        for (int i = 1; i <= 8; i++) {
            Edge.due("hear(0, 0): nowhere", x.hear(0, 0), 0);
        }
        Edge.due("hear(0, 0): the ninth", x.hear(0, 0), FULL);
        x.tear();
        x.begin(0);
        Edge.due("hear(0, 3) behind tear()", x.hear(0, 3), 8);
    }

    private static void heardSets() {
        Edge.says(27, "HERE: CROSSINGS (a SET) where one can be now by it; BEGAN: where one can have begun.");
        BlindGuides x = Check.cityOf(ECHOES);
        x.begin(1);
        Edge.due("hear(0, 3): from 1", x.hear(0, 3), 8);
        Edge.due("began()", x.began(), 2);
        Edge.due("hear(1, 3)", x.hear(1, 3), 8);
        Edge.due("hear(0, 0)", x.hear(0, 0), 1);
        Edge.due("began()", x.began(), 2);
        Edge.due("told(11)", x.told(11), 1);
        Edge.due("hear(0, 4): that cannot be", x.hear(0, 4), 0);
        Edge.due("began()", x.began(), 0);
        Edge.due("told(11)", x.told(11), 0);
        Edge.due("hear(0, 3): no more can it be", x.hear(0, 3), 0);
        BlindGuides one = Check.cityOf("n3;c1 2 2 2;c1 2 2 2;c0 2 2 2;");
        one.begin(1);
        Edge.due("hear(0, 0): from both to one", one.hear(0, 0), 4);
        Edge.due("began(): both", one.began(), 3);
    }

    private static void began() {
        Edge.says(28, "BEGAN (one has not begun: 0).");
        Edge.due("no city", new BlindGuides().began(), 0);
        BlindGuides x = Check.cityOf(ECHOES);
        Edge.due("a city", x.began(), 0);
        x.begin(4);
        Edge.due("begun", x.began(), 16);
        x.tear();
        Edge.due("torn", x.began(), 0);
        Edge.changesNothing("began()", 1, BlindGuides::began);
    }

    private static void listen() {
        Edge.says(29, "LISTEN; NONE.");
        Edge.changesNothing("listen()", NONE, BlindGuides::listen);
        Edge.changesNothing("listen() of two", 0, BlindGuides::listen, () -> {
            BlindGuides x = Edge.muchDone();
            x.begin(1);
            return x;
        });
        Edge.due("no city", new BlindGuides().listen(), NONE);
        BlindGuides x = Check.cityOf(ECHOES);
        Edge.due("one has not begun", x.listen(), NONE);
        x.begin(2);
        Edge.due("one is nowhere", x.listen(), NONE);
        x.begin(0);
        Edge.due("one is at one crossing", x.listen(), NONE);
        x.begin(1);
        Edge.due("by turn 0 one hears 3 or 4", x.listen(), 0);
        for (int i = 0; i < 8; i++) {
            x.hear(2, 1);
        }
        Edge.due("behind eight turns, too", x.listen(), 0);
        x.tear();
        Edge.due("behind tear()", x.listen(), NONE);
    }

    private static void dueListen(int due, int a, int b, int c, int d) {
        // a to d are, for each turn, the figure of where it leads; the sounds of 4 to 7 are 1, 2, 3, 3
        int[] from = {a, b, c, d};
        StringBuilder text = new StringBuilder("n8;");
        for (int ends : from) {
            text.append("c0 ").append(ends / 100).append(' ').append(ends / 10 % 10).append(' ').append(ends % 10).append(';');
        }
        text.append("c1 0 0 0;c2 0 0 0;c3 0 0 0;c3 0 0 0;");
        BlindGuides x = Check.cityOf(text.toString());
        x.begin(0);
        Edge.due("listen() in " + text, x.listen(), due);
        for (int k = 0; k < 8; k++) {
            x.wall(k, true);
        }
        Edge.due("listen() with walls in " + text, x.listen(), due);
    }

    private static void listenOfLikeOnes() {
        Edge.says(29, "the TURN by the SOUND behind which the CROSSINGS of HERE are told apart best: the greatest part that is alike is least; "
            + "of like ones the least; NONE: none parts them.");
        dueListen(NONE, 444, 444, 444, 444);
        dueListen(NONE, 456, 456, 457, 456);
        dueListen(0, 444, 444, 444, 544);
        dueListen(1, 444, 444, 444, 454);
        dueListen(2, 444, 444, 444, 445);
        // three and one; two and two; two, one and one
        dueListen(1, 444, 445, 456, 556);
        dueListen(1, 444, 445, 456, 557);
        dueListen(0, 444, 444, 555, 555);
        dueListen(2, 445, 444, 556, 650);
        // crossings that are unlike, but sound alike
        dueListen(1, 644, 744, 654, 754);
        dueListen(NONE, 667, 776, 667, 776);
        // the sound where one began is one of them
        dueListen(0, 44, 444, 444, 444);
    }

    private static void write() {
        Edge.says(30, "An entry behind THE BOOK: how many. UNKNOWN, FULL (15).");
        Edge.changesNothing("write(3, 0)", UNKNOWN, x -> x.write(3, 0));
        Edge.changesNothing("write(0, 4)", UNKNOWN, x -> x.write(0, 4));
        for (int far : FAR) {
            Edge.changesNothing("write(" + far + ", 0)", UNKNOWN, x -> x.write(far, 0));
            Edge.changesNothing("write(0, " + far + ")", UNKNOWN, x -> x.write(0, far));
        }
        Edge.due("write(0, 0) of no city", new BlindGuides().write(0, 0), UNKNOWN);
    }

    private static BlindGuides fullBook() {
        BlindGuides x = Check.cityOf(ECHOES);
        x.hire(0, 0);
        x.begin(1);
        for (int i = 0; i < 15; i++) {
            x.write(i % 2, i % 2 == 0 ? 1 : 4);
        }
        return x;
    }

    private static void writeFifteen() {
        Edge.says(30, "THE BOOK (15 at most) tells where GUIDES stand");
        BlindGuides x = Check.cityOf(ECHOES);
        for (int i = 1; i <= 15; i++) {
            Edge.due("write(1, 5)", x.write(1, 5), i);
            Edge.due("told(12)", x.told(12), i);
        }
        Edge.due("write(1, 5): the 16th", x.write(1, 5), FULL);
        Edge.due("told(12)", x.told(12), 15);
        for (int crossing = 0; crossing < 6; crossing++) {
            int c = crossing;
            Edge.changesNothing("write(0, " + c + "): the 16th", FULL, y -> y.write(0, c), EdgesHeardTest::fullBook);
        }
        Edge.changesNothing("write(2, 0): the 16th", UNKNOWN, y -> y.write(2, 0), EdgesHeardTest::fullBook);
        Edge.changesNothing("write(0, 6): the 16th", UNKNOWN, y -> y.write(0, 6), EdgesHeardTest::fullBook);
        Edge.changesNothing("write(-1, -1): the 16th", UNKNOWN, y -> y.write(-1, -1), EdgesHeardTest::fullBook);
    }

    private static void tear() {
        Edge.says(31, "Nothing HEARD, THE BOOK is empty: how many entries THE BOOK had.");
        for (int entries = 0; entries <= 15; entries++) {
            BlindGuides x = Check.cityOf(ECHOES);
            x.begin(1);
            x.hear(0, 3);
            x.night(2);
            for (int i = 0; i < entries; i++) {
                x.write(0, 5);
            }
            Edge.due("tear()", x.tear(), entries);
            Edge.due("told(10)", x.told(10), NONE);
            Edge.due("told(11)", x.told(11), 0);
            Edge.due("told(12)", x.told(12), 0);
            Edge.due("judge()", x.judge(), NONE);
            Edge.due("told(13): no deed", x.told(13), 1);
            Edge.due("told(4)", x.told(4), 2);
            Edge.due("tear() again", x.tear(), 0);
            Edge.due("write(0, 0)", x.write(0, 0), 1);
            Edge.due("judge(): of the new entry alone", x.judge(), NONE);
        }
        Edge.due("no city", new BlindGuides().tear(), 0);
    }

    private static void judge() {
        Edge.says(32, "WRONG; NONE.");
        Edge.due("no city", new BlindGuides().judge(), NONE);
        Edge.changesNothing("judge()", 1, BlindGuides::judge);
        Edge.changesNothing("judge() of a full book", NONE, BlindGuides::judge, EdgesHeardTest::fullBook);
        Edge.says(32, "WRONG: the first that is otherwise now; NONE.");
        for (int first = 0; first <= 15; first++) {
            BlindGuides x = Check.cityOf(ECHOES);
            for (int i = 0; i < 15; i++) {
                // the first wrong one, and two behind that
                boolean wrong = i == first || i == first + 1 || i == first + 5;
                x.write(i % 2, wrong ? 5 : i % 2 == 0 ? 0 : 4);
            }
            Edge.due("judge()", x.judge(), first < 15 ? first : NONE);
        }
        BlindGuides x = Check.cityOf(ECHOES);
        x.keep(0);
        Edge.due("an empty book", x.judge(), NONE);
        x.write(1, 4);
        x.write(0, 1);
        x.write(0, 0);
        Edge.due("wrong at first", x.judge(), 1);
        x.hire(0, 0);
        Edge.due("as it is now", x.judge(), 2);
        x.hire(1, 1);
        Edge.due("as it is now", x.judge(), 0);
        x.undo();
        Edge.due("undone", x.judge(), 2);
        x.goBack(0);
        Edge.due("gone back", x.judge(), 1);
        x.nowhere(0, 1);
        Edge.due("gone nowhere", x.judge(), 1);
    }
}
