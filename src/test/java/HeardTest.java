/** Promises 26 to 32: what is heard, and the book. */
public final class HeardTest {
    private static final int NONE = -1, UNKNOWN = -1000000001, OUTSIDE = -1000000002, NOT = -1000000003, FULL = -1000000004;
    /** Sounds 1 1 1 2 2. By turn 0: 1 3 4 0 0; by turn 1: 3 3 0 4 1; by turn 2: all to 2. */
    private static final String ECHOES = "n5;c1 1 3 2;c1 3 3 2;c1 4 0 2;c2 0 4 2;c2 0 1 2;g0 1 31;g4 1 31;e0 1;";

    public static void main(String[] args) {
        begin();
        hear();
        heardAll();
        listen();
        wallsAreNotHeard();
        write();
        tear();
        judge();
        Check.end();
    }

    private static void begin() {
        BlindGuides x = Check.cityOf(ECHOES);
        Check.due("began() ahead", x.began(), 0);
        Check.due("told(11) ahead", x.told(11), 0);
        Check.due("begin(-1)", x.begin(-1), OUTSIDE);
        Check.due("begin(6)", x.begin(6), OUTSIDE);
        Check.due("told(10) behind a refusal", x.told(10), NONE);
        Check.due("begin(1)", x.begin(1), 7);
        Check.due("told(10)", x.told(10), 0);
        Check.due("told(11)", x.told(11), 7);
        Check.due("began()", x.began(), 7);
        x.hear(0, 2);
        Check.due("begin(2): what was heard is gone", x.begin(2), 24);
        Check.due("told(10)", x.told(10), 0);
        Check.due("began()", x.began(), 24);
        Check.due("begin(5): nowhere", x.begin(5), 0);
        Check.due("begin(6)", x.begin(6), OUTSIDE);
        Check.due("told(10)", x.told(10), 0);
    }

    private static void hear() {
        BlindGuides x = Check.cityOf(ECHOES);
        Check.due("hear(3, 0)", x.hear(3, 0), OUTSIDE);
        Check.due("hear(-1, 0)", x.hear(-1, 0), OUTSIDE);
        Check.due("hear(0, 6)", x.hear(0, 6), OUTSIDE);
        Check.due("hear(0, -1)", x.hear(0, -1), OUTSIDE);
        Check.due("hear(0, 0): one has not begun", x.hear(0, 0), NOT);
        x.begin(1);
        Check.due("hear(0, 2)", x.hear(0, 2), 24);
        Check.due("began()", x.began(), 6);
        Check.due("told(10)", x.told(10), 1);
        Check.due("hear(0, 1): both come to one", x.hear(0, 1), 1);
        Check.due("began()", x.began(), 6);
        Check.due("hear(1, 2)", x.hear(1, 2), 8);
        Check.due("hear(2, 2): that cannot be", x.hear(2, 2), 0);
        Check.due("began()", x.began(), 0);
        Check.due("told(10)", x.told(10), 4);
        for (int i = 5; i <= 8; i++) {
            Check.due("hear(0, 1)", x.hear(0, 1), 0);
            Check.due("told(10)", x.told(10), i);
        }
        Check.due("hear(0, 1): the ninth", x.hear(0, 1), FULL);
        Check.due("hear(3, 1): the ninth", x.hear(3, 1), OUTSIDE);
        Check.due("told(10)", x.told(10), 8);
        Check.due("begin(1) behind it", x.begin(1), 7);
        Check.due("hear(0, 1) behind it", x.hear(0, 1), 2);
    }

    private static void heardAll() {
        BlindGuides x = Check.cityOf(ECHOES);
        x.begin(2);
        Check.due("hear(1, 2)", x.hear(1, 2), 16);
        Check.due("began()", x.began(), 8);
        Check.due("hear(2, 1)", x.hear(2, 1), 4);
        Check.due("hear(2, 1)", x.hear(2, 1), 4);
        Check.due("hear(0, 2)", x.hear(0, 2), 16);
        Check.due("hear(1, 1)", x.hear(1, 1), 2);
        Check.due("began()", x.began(), 8);
    }

    private static void listen() {
        BlindGuides x = Check.cityOf(ECHOES);
        Check.due("listen() ahead", x.listen(), NONE);
        x.begin(1);
        // 0 1 2: by turn 0 come 1 2 2, by turn 1 2 2 1, by turn 2 all 1
        Check.due("of like turns the least", x.listen(), 0);
        x.begin(2);
        // 3 4: by turn 0 both come to 0, by turn 1 to 4 and 1
        Check.due("turn 1 parts them", x.listen(), 1);
        x.hear(0, 1);
        Check.due("one alone", x.listen(), NONE);
        x.begin(4);
        Check.due("none at all", x.listen(), NONE);
        BlindGuides alike = Check.cityOf("n3;c0 1 1 1;c0 2 2 2;c0 0 0 0;");
        alike.begin(0);
        Check.due("none parts them", alike.listen(), NONE);
        BlindGuides last = Check.cityOf("n6;c0 0 0 3;c0 0 0 4;c0 4 4 5;c1 0 0 0;c2 0 0 0;c3 0 0 0;");
        last.begin(0);
        Check.due("the last parts them best", last.listen(), 2);
    }

    private static void wallsAreNotHeard() {
        BlindGuides x = Check.cityOf(ECHOES);
        for (int c = 0; c < 5; c++) {
            x.wall(c, true);
        }
        Check.due("begin(1)", x.begin(1), 7);
        Check.due("hear(0, 2)", x.hear(0, 2), 24);
    }

    private static void write() {
        BlindGuides x = Check.cityOf(ECHOES);
        Check.due("write(2, 0)", x.write(2, 0), UNKNOWN);
        Check.due("write(-1, 0)", x.write(-1, 0), UNKNOWN);
        Check.due("write(0, 5)", x.write(0, 5), UNKNOWN);
        Check.due("write(0, -1)", x.write(0, -1), UNKNOWN);
        for (int i = 1; i <= 15; i++) {
            Check.due("write(0, 0)", x.write(0, 0), i);
        }
        Check.due("write(0, 0) to a full book", x.write(0, 0), FULL);
        Check.due("write(2, 0) to a full book", x.write(2, 0), UNKNOWN);
        Check.due("told(12)", x.told(12), 15);
        Check.due("judge()", x.judge(), NONE);
    }

    private static void tear() {
        BlindGuides x = Check.cityOf(ECHOES);
        Check.due("tear() of nothing", x.tear(), 0);
        x.begin(1);
        x.hear(0, 2);
        x.write(0, 1);
        x.write(1, 1);
        x.hire(0, 0);
        Check.due("tear()", x.tear(), 2);
        Check.due("told(10)", x.told(10), NONE);
        Check.due("told(11)", x.told(11), 0);
        Check.due("told(12)", x.told(12), 0);
        Check.due("began()", x.began(), 0);
        Check.due("hear(0, 0)", x.hear(0, 0), NOT);
        Check.due("write(1, 4)", x.write(1, 4), 1);
        Check.due("what is done stays", x.told(13), 1);
    }

    private static void judge() {
        BlindGuides x = Check.cityOf(ECHOES);
        Check.due("judge() of an empty book", x.judge(), NONE);
        x.write(0, 0);
        x.write(1, 4);
        Check.due("judge() of a true book", x.judge(), NONE);
        x.write(1, 3);
        x.write(0, 3);
        Check.due("judge()", x.judge(), 2);
        x.hire(0, 0);
        Check.due("judge() as it is now", x.judge(), 0);
        x.undo();
        Check.due("judge() as it is again", x.judge(), 2);
    }
}
