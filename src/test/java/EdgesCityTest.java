/** Promises 1 to 8: each sentence of the document that names an edge, in the document's order. */
public final class EdgesCityTest {
    private static final int NONE = -1, UNKNOWN = -1000000001, OUTSIDE = -1000000002, NOT = -1000000003, FULL = -1000000004;
    private static final int LEAST = Edge.LEAST, MOST = Edge.MOST;
    private static final int[] FAR = {LEAST, -1000000001, -2, -1, 256, 65536, MOST};

    public static void main(String[] args) {
        constants();
        newObject();
        feed();
        textIsTaken();
        counts();
        crossingsTold();
        guidesTold();
        clientsTold();
        moonsTold();
        numbers();
        blanks();
        faults();
        emptyText();
        cityStartsAnew();
        faultLeavesAllElse();
        fault();
        told();
        talk();
        crossing();
        guide();
        client();
        Check.end();
    }

    private static void constants() {
        Check.due("NONE", BlindGuides.NONE, NONE);
        Check.due("UNKNOWN", BlindGuides.UNKNOWN, UNKNOWN);
        Check.due("OUTSIDE", BlindGuides.OUTSIDE, OUTSIDE);
        Check.due("NOT", BlindGuides.NOT, NOT);
        Check.due("FULL", BlindGuides.FULL, FULL);
    }

    private static void newObject() {
        Edge.says(1, "No CITY.");
        dueNoCity(new BlindGuides());
        Edge.says(1, "THE SEED (0 at first");
        Edge.due("seed(0)", new BlindGuides().seed(0), 0);
    }

    /** Nothing is told, and there is no crossing, guide or client to ask of. */
    private static void dueNoCity(BlindGuides x) {
        for (int what = 0; what < 14; what++) {
            Edge.due("told(" + what + ")", x.told(what), what == 10 ? NONE : 0);
        }
        Edge.due("fault()", x.fault(), NONE);
        Edge.due("crossing(0, 0)", x.crossing(0, 0), UNKNOWN);
        Edge.due("guide(0, 0)", x.guide(0, 0), UNKNOWN);
        Edge.due("client(0, 0)", x.client(0, 0), UNKNOWN);
        Edge.due("night(1)", x.night(1), NOT);
        Edge.due("hire(0, 0)", x.hire(0, 0), UNKNOWN);
        Edge.due("nowhere(0, 1)", x.nowhere(0, 1), UNKNOWN);
        Edge.due("wall(0, true)", x.wall(0, true), UNKNOWN);
        Edge.due("learn(0, 0)", x.learn(0, 0), UNKNOWN);
        Edge.due("forget(0)", x.forget(0), UNKNOWN);
        Edge.due("drift(1)", x.drift(1), NOT);
        Edge.due("undo()", x.undo(), NOT);
        Edge.due("leads(0, 0, 0)", x.leads(0, 0, 0), UNKNOWN);
        Edge.due("way(0, 0, 0)", x.way(0, 0, 0), UNKNOWN);
        Edge.due("match(-1)", x.match(-1), 0);
        Edge.due("match(0)", x.match(0), UNKNOWN);
        Edge.due("fromWherever(0, 0, 0)", x.fromWherever(0, 0, 0), UNKNOWN);
        Edge.due("meet(1, 0)", x.meet(1, 0), UNKNOWN);
        Edge.due("meet(0, 0)", x.meet(0, 0), 0);
        Edge.due("ring(0)", x.ring(0), UNKNOWN);
        Edge.due("allGoBy(0, 0, 0)", x.allGoBy(0, 0, 0), UNKNOWN);
        Edge.due("pose(0, 0)", x.pose(0, 0), UNKNOWN);
        Edge.due("hear(0, 0)", x.hear(0, 0), NOT);
        Edge.due("began()", x.began(), 0);
        Edge.due("listen()", x.listen(), NONE);
        Edge.due("write(0, 0)", x.write(0, 0), UNKNOWN);
        Edge.due("judge()", x.judge(), NONE);
        Edge.due("tear()", x.tear(), 0);
        Edge.due("goBack(0)", x.goBack(0), NOT);
        Edge.due("goBack(1)", x.goBack(1), NOT);
        Edge.due("begin(0)", x.begin(0), 0);
        Edge.due("hear(0, 0) behind it", x.hear(0, 0), 0);
    }

    private static void feed() {
        Edge.says(2, "One letter (a number 0 .. 255) comes behind THE TEXT: how many it has.");
        BlindGuides x = new BlindGuides();
        Edge.due("feed(0)", x.feed(0), 1);
        Edge.due("feed(255)", x.feed(255), 2);
        for (int i = 3; i <= 240; i++) {
            Edge.due("feed(" + i + ")", x.feed(i), i);
        }
        Edge.says(2, "OUTSIDE, FULL (240).");
        Edge.due("the 241st", x.feed('n'), FULL);
        Edge.due("the 241st, no letter", x.feed(256), OUTSIDE);
        Edge.due("the 241st, no letter", x.feed(-1), OUTSIDE);
        Edge.due("told(3)", x.told(3), 240);
        for (int letter : FAR) {
            Edge.changesNothing("feed(" + letter + ")", OUTSIDE, y -> y.feed(letter));
        }
        BlindGuides full = new BlindGuides();
        Check.feed(full, "n1;" + " ".repeat(237));
        for (int i = 0; i < 3; i++) {
            Edge.due("what does not fit in", full.feed('x'), FULL);
        }
        Edge.due("city(): what did not fit in is not there", full.city(), 1);
    }

    private static void textIsTaken() {
        Edge.says(3, "THE TEXT (it is empty then, with a FAULT, too) becomes THE CITY");
        BlindGuides x = new BlindGuides();
        Check.feed(x, "n2;e0 1;");
        Edge.due("city()", x.city(), 2);
        Edge.due("told(3)", x.told(3), 0);
        Check.feed(x, "n1");
        Edge.due("city(): no ';' of the text before", x.city(), -11);
        Edge.due("fault()", x.fault(), 2);
        Edge.due("told(3) behind a fault", x.told(3), 0);
        Check.feed(x, "n1;m");
        Edge.due("city(): no number of the text before", x.city(), -11);
        Edge.due("fault()", x.fault(), 4);
        Check.feed(x, "n3;");
        Edge.due("city() behind a fault", x.city(), 3);
        Edge.due("fault() behind a fault", x.fault(), NONE);
    }

    private static void counts() {
        Edge.says(3, "'n' N ';' (CROSSINGS 0 .. N less 1, N 1 .. 8; first, once)");
        Edge.city("n0;", -12, 1);
        for (int n = 1; n <= 8; n++) {
            Edge.city("n" + n + ";", n, NONE);
        }
        Edge.city("n9;", -12, 1);
        Edge.city("n10;", -12, 1);
        Edge.city("n255;", -12, 1);
        for (String word : new String[] {"c0 0 0 0;", "g0 1 1;", "e0 0;", "m1;"}) {
            Edge.city(word + "n1;", -11, 0);
            Edge.city("n1;" + word + "n1;", -13, 3 + word.length());
            Edge.city("n1;" + word, 1, NONE);
        }
        Edge.city("n1;n1;", -13, 3);
        Edge.city("n1;n", -13, 3);
        BlindGuides x = Check.cityOf("n3;");
        Edge.due("crossing(2, 0)", x.crossing(2, 0), 0);
        Edge.due("crossing(3, 0)", x.crossing(3, 0), UNKNOWN);
    }

    private static void crossingsTold() {
        Edge.says(3, "'c' S A B C ';' (N of these at most, for CROSSINGS as they come: SOUND S, 0 .. 5; by TURN 0 one comes to A, by 1 to B, by 2 to C, CROSSINGS;");
        for (int n = 1; n <= 8; n++) {
            Edge.city("n" + n + ";" + "c0 0 0 0;".repeat(n), n, NONE);
            Edge.city("n" + n + ";" + "c0 0 0 0;".repeat(n) + "c", -13, 3 + 9 * n);
            Edge.city("n" + n + ";c0 0 0 " + (n - 1) + ";", n, NONE);
            Edge.city("n" + n + ";c0 0 0 " + n + ";", -12, 10);
        }
        Edge.city("n2;c0 1 1 1;", 2, NONE);
        Edge.city("n2;c5 0 0 0;", 2, NONE);
        Edge.city("n2;c6 0 0 0;", -12, 4);
        Edge.city("n2;c0 2 0 0;", -12, 6);
        Edge.city("n2;c0 0 2 0;", -12, 8);
        Edge.city("n2;c0 0 0 2;", -12, 10);
        BlindGuides x = Check.cityOf("n3;c5 1 2 0;c0 2 2 1;");
        int[][] rows = {{5, 1, 2, 0}, {0, 2, 2, 1}, {0, 2, 2, 2}};
        for (int i = 0; i < 3; i++) {
            for (int what = 0; what < 4; what++) {
                Edge.due("crossing(" + i + ", " + what + ")", x.crossing(i, what), rows[i][what]);
            }
        }
        Edge.says(3, "untold ones: SOUND 0, all TURNS lead back to it)");
        BlindGuides untold = Check.cityOf("n8;");
        for (int i = 0; i < 8; i++) {
            for (int what = 0; what < 4; what++) {
                Edge.due("crossing(" + i + ", " + what + ")", untold.crossing(i, what), what == 0 ? 0 : i);
            }
        }
    }

    private static void guidesTold() {
        Edge.says(3, "'g' X P K ';' (6 GUIDES at most: stands at CROSSING X; asks P, 0 .. 99, a STREET; knows the CROSSINGS of the SET K, 1 .. 255)");
        for (int many = 0; many <= 6; many++) {
            BlindGuides x = Check.cityOf("n1;" + "g0 0 1;".repeat(many));
            Edge.due("told(1)", x.told(1), many);
            Edge.due("guide(" + many + ", 0)", x.guide(many, 0), UNKNOWN);
        }
        Edge.city("n1;" + "g0 0 1;".repeat(6) + "g0 0 1;", -13, 45);
        Edge.city("n8;g7 0 1;", 8, NONE);
        Edge.city("n8;g8 0 1;", -12, 4);
        Edge.city("n2;g2 0 1;", -12, 4);
        Edge.city("n2;g0 99 1;", 2, NONE);
        Edge.city("n2;g0 100 1;", -12, 6);
        Edge.city("n2;g0 0 0;", -12, 8);
        Edge.city("n8;g0 0 255;", 8, NONE);
        Edge.city("n8;g0 0 256;", -12, 8);
        Edge.says(3, "a K with bits of CROSSINGS that there is not (at its first)");
        for (int n = 1; n <= 8; n++) {
            Edge.city("n" + n + ";g0 0 " + ((1 << n) - 1) + ";", n, NONE);
            Edge.city("n" + n + ";g0 0 " + (1 << n) + ";", -12, 8);
            Edge.city("n" + n + ";g0 0  " + (1 + (1 << n)) + ";", -12, 9);
        }
    }

    private static void clientsTold() {
        Edge.says(3, "'e' F T ';' (6 CLIENTS at most: from CROSSING F to T)");
        for (int many = 0; many <= 6; many++) {
            BlindGuides x = Check.cityOf("n1;" + "e0 0;".repeat(many));
            Edge.due("told(2)", x.told(2), many);
            Edge.due("client(" + many + ", 0)", x.client(many, 0), UNKNOWN);
        }
        Edge.city("n1;" + "e0 0;".repeat(7), -13, 33);
        Edge.city("n8;e7 7;", 8, NONE);
        Edge.city("n8;e8 7;", -12, 4);
        Edge.city("n8;e7 8;", -12, 6);
        Edge.city("n3;e2 2;", 3, NONE);
        Edge.city("n3;e3 2;", -12, 4);
        Edge.city("n3;e2 3;", -12, 6);
    }

    private static void moonsTold() {
        Edge.says(3, "'m' L {',' L} ';' (MOONS: 1 to 12 numbers, 0 .. 9:");
        StringBuilder row = new StringBuilder("n1;m9");
        for (int many = 1; many <= 12; many++) {
            Edge.city(row + ";", 1, NONE);
            row.append(",0");
        }
        Edge.city(row + ";", -11, 27);
        Edge.city("n1;m;", -11, 4);
        Edge.city("n1;m10;", -12, 4);
        Edge.city("n1;m0,10;", -12, 6);
        Edge.city("n1;m0,;", -11, 6);
        Edge.says(3, "in NIGHT k the one of k left over by how many; 0 untold; once)");
        Edge.city("n1;m1;m1;", -13, 6);
        Edge.city("n1;m1;e0 0;m", -13, 11);
        for (int many = 1; many <= 12; many++) {
            moonsOf(many);
        }
        BlindGuides untold = Check.cityOf("n1;");
        Edge.due("untold, in night 0", untold.told(5), 0);
        untold.night(13);
        Edge.due("untold, in night 13", untold.told(5), 0);
    }

    private static void moonsOf(int many) {
        StringBuilder text = new StringBuilder("n1;m");
        for (int k = 0; k < many; k++) {
            text.append(k == 0 ? "" : ",").append((k + 3) % 10);
        }
        BlindGuides x = Check.cityOf(text + ";");
        for (int night = 0; night < 27; night++) {
            Edge.due("MOON of night " + night + " of " + many, x.told(5), (night % many + 3) % 10);
            x.night(1);
        }
    }

    private static void numbers() {
        Edge.says(3, "NUMBERS have one to three figures");
        Edge.city("n8;", 8, NONE);
        Edge.city("n08;", 8, NONE);
        Edge.city("n008;", 8, NONE);
        Edge.city("n0008;", -12, 1);
        Edge.city("n1;g000 099 001;c005 000 00 0;e000 0;m009,09,9;", 1, NONE);
        Edge.says(3, "2 a NUMBER of four figures or more, or out of its bounds; a CROSSING");
        Edge.city("n1;c0000 0 0 0;", -12, 4);
        Edge.city("n1;c0 0 0 00000000000000000000000;", -12, 10);
        Edge.city("n1;g0 0000 1;", -12, 6);
        Edge.city("n1;g0 0 0001;", -12, 8);
        Edge.city("n1;m0001;", -12, 4);
        // 2 to the 32, and to the 64, and 1 more: a number that wraps around would be 1
        Edge.city("n4294967297;", -12, 1);
        Edge.city("n18446744073709551617;", -12, 1);
        Edge.city("n" + "1".repeat(239), -12, 1);
        Edge.city("n1;g0 0 1001;", -12, 8);
        Edge.city("n1;g0 0 4097;", -12, 8);
        Edge.city("n1;m0,999;", -12, 6);
        Edge.says(3, "a word is one letter");
        Edge.city("nn1;", -11, 1);
        Edge.city("n1;cc0 0 0 0;", -11, 4);
        Edge.city("n1;mm1;", -11, 4);
        Edge.city("N1;", -11, 0);
    }

    private static void blanks() {
        Edge.says(3, "blanks (32) may stand anywhere but within NUMBERS");
        Edge.city("   n   1   ;   c   5   0   0   0   ;   g  0  10  1  ;  e  0  0  ;  m  0  ,  9  ;   ", 1, NONE);
        Edge.city("n1;c0 0 0 0;g0 9 1;e0 0;m0,9;", 1, NONE);
        Edge.city("n1;m1 0;", -11, 6);
        Edge.city("n1;g0 1 1 0;", -11, 10);
        for (int letter : new int[] {0, 9, 10, 13, 31, 33, 160, 255}) {
            Edge.city((char) letter + "n1;", -11, 0);
            Edge.city("n" + (char) letter + "1;", -11, 1);
            Edge.city("n1" + (char) letter + ";", -11, 2);
            Edge.city("n1;" + (char) letter, -11, 3);
        }
        Edge.says(3, "two NUMBERS side by side need one");
        Edge.city("n2;e01;", -11, 6);
        Edge.city("n2;e0 1;", 2, NONE);
        Edge.city("n2;c0 11 1;", -12, 6);
        Edge.city("n2;c0 1 1 1;g1 01 3;", 2, NONE);
        Edge.city("n2;g1013;", -12, 4);
    }

    private static void faults() {
        Edge.says(3, "FAULTS, at the first letter that has one (the end at the text's length), of these the least");
        Edge.city("n9;x", -12, 1);
        Edge.city("n1;x;n9", -11, 3);
        Edge.city("n1;e1 1;n1;", -12, 4);
        Edge.city("n1;n1;e1 1;", -13, 3);
        Edge.city("n1;g0 100 2;", -12, 6);
        String whole = "n1;c0 0 0 0;g0 1 1;e0 0;m1,2;";
        for (int length = 1; length < whole.length(); length++) {
            String part = whole.substring(0, length);
            if (part.endsWith(";")) {
                Edge.city(part, 1, NONE);
            } else {
                Edge.city(part, -11, length);
                Edge.city(part + "  ", -11, length + 2);
            }
        }
        Edge.city("n2" + " ".repeat(238), -11, 240);
        Edge.says(3, "1 it cannot stand there (a letter that is no word, another word first than 'n'; a 13th L: at its ',')");
        Edge.city("c0 0 0 0;", -11, 0);
        Edge.city("  c", -11, 2);
        Edge.city("m1;", -11, 0);
        Edge.city(";", -11, 0);
        Edge.city("1", -11, 0);
        Edge.city("n1;1", -11, 3);
        Edge.city("n1;,", -11, 3);
        Edge.city("n1;a", -11, 3);
        Edge.city("n1;" + (char) 255, -11, 3);
        Edge.city("n1;" + (char) 0, -11, 3);
        Edge.city("n1;m0,1,2,3,4,5,6,7,8,9,0,1,99;", -11, 27);
        Edge.city("n1;m0,1,2,3,4,5,6,7,8,9,0,1 ,", -11, 28);
        Edge.city("n1;m0,1,2,3,4,5,6,7,8,9,0,10,1;", -12, 26);
        Edge.says(3, "3 'n', 'm' again, a 'c' too many, a seventh 'g', 'e' (at it)");
        Edge.city("n1;  n 9", -13, 5);
        Edge.city("n1;m1;  m 99", -13, 8);
        Edge.city("n1;c0 0 0 0;  c 9", -13, 14);
        Edge.city("n1;" + "g0 0 1;".repeat(6) + "  gx", -13, 47);
        Edge.city("n1;" + "e0 0;".repeat(6) + "  e9", -13, 35);
    }

    private static void emptyText() {
        Edge.says(3, "An empty text (or one of blanks alone) has no FAULT: no CITY.");
        Edge.city("", 0, NONE);
        Edge.city(" ", 0, NONE);
        Edge.city(" ".repeat(240), 0, NONE);
        Edge.says(3, "N (0: no CITY)");
        for (String text : new String[] {"", " ", " ".repeat(100)}) {
            BlindGuides x = Check.cityOf(Edge.CITY);
            x.hire(0, 0);
            x.wall(1, true);
            x.begin(1);
            x.write(0, 0);
            x.keep(0);
            x.night(9);
            Check.feed(x, text);
            Edge.due("city()", x.city(), 0);
            dueNoCity(x);
        }
    }

    private static void cityStartsAnew() {
        Edge.says(3, "(NIGHT 0, no WALLS, nothing PAID, HEADS are empty; nothing HEARD, no BOOK; IMAGES, what could be undone are gone; THE SEED stays)");
        BlindGuides x = Edge.muchDone();
        Edge.due("city()", x.city(), 3);
        int[] told = {3, 0, 0, 0, 0, 0, 0, 0, 0, 0, NONE, 0, 0, 0};
        for (int what = 0; what < 14; what++) {
            Edge.due("told(" + what + ")", x.told(what), told[what]);
        }
        Edge.due("goBack(0)", x.goBack(0), NOT);
        Edge.due("goBack(1)", x.goBack(1), NOT);
        Edge.due("undo()", x.undo(), NOT);
        Edge.due("hear(0, 0)", x.hear(0, 0), NOT);
        Edge.due("judge()", x.judge(), NONE);
        Edge.due("seed(0)", x.seed(0), 78);
        // thrice, for what the text before the last could leave
        for (int i = 0; i < 3; i++) {
            Check.feed(x, "n4;c1 1 1 1;g3 5 8;g1 4 15;e0 1;e1 1;m5;");
            Edge.due("city()", x.city(), 4);
            int[] again = {4, 2, 2, 0, 0, 5, 0, 0, 0, 0, NONE, 0, 0, 0};
            for (int what = 0; what < 14; what++) {
                Edge.due("told(" + what + ") in city " + i, x.told(what), again[what]);
            }
            Edge.due("guide(0, 0)", x.guide(0, 0), 3);
            Edge.due("guide(0, 2)", x.guide(0, 2), 8);
            Edge.due("guide(0, 3)", x.guide(0, 3), 0);
            Edge.due("guide(1, 3)", x.guide(1, 3), 0);
            Edge.due("hire(0, 0)", x.hire(0, 0), NOT);
            Edge.due("hire(1, 0)", x.hire(1, 0), 2);
            Edge.due("hire(1, 1)", x.hire(1, 1), 0);
            x.learn(0, 0);
            x.wall(i, true);
            x.begin(1);
            x.write(0, 0);
            x.keep(0);
            x.drift(5);
            x.hire(1, 1);
            x.seed(i);
        }
        Edge.due("seed(0)", x.seed(0), 2);
        // what the texts before have told is untold in the next two
        for (int i = 0; i < 2; i++) {
            Check.feed(x, "n2;e0 1;");
            Edge.says(3, "THE TEXT (it is empty then, with a FAULT, too) becomes THE CITY");
            Edge.due("city()", x.city(), 2);
            Edge.due("told(1): no guides", x.told(1), 0);
            Edge.due("told(2): one client", x.told(2), 1);
            Edge.says(3, "untold ones: SOUND 0, all TURNS lead back to it)");
            for (int what = 0; what < 4; what++) {
                Edge.due("crossing(0, " + what + ")", x.crossing(0, what), 0);
                Edge.due("crossing(1, " + what + ")", x.crossing(1, what), what == 0 ? 0 : 1);
            }
            Edge.says(3, "in NIGHT k the one of k left over by how many; 0 untold; once)");
            Edge.due("told(5): no moons", x.told(5), 0);
            x.night(1);
            Edge.due("told(5): no moons by night 1", x.told(5), 0);
        }
    }

    private static void faultLeavesAllElse() {
        Edge.says(3, "-10 less the number of its FAULT (all else is as it was)");
        String[] texts = {"x", "n3;g0 0 9;", "n4;c2 1 1 1;g1 1 1;e0 0;m9;n", "n8;e0 8;", "n2;m1,2;c"};
        int[] answers = {-11, -12, -13, -12, -11};
        int[] places = {0, 8, 27, 6, 9};
        for (int i = 0; i < texts.length; i++) {
            String text = texts[i];
            Edge.changesNothing("city() of '" + text + "'", answers[i], x -> {
                Check.feed(x, text);
                return x.city();
            }, Edge::muchDoneWithoutText);
            Edge.city(text, answers[i], places[i]);
        }
    }

    private static void fault() {
        Edge.says(4, "The letter of the FAULT of the latest city(); NONE.");
        BlindGuides x = new BlindGuides();
        Edge.due("fault() ahead of all", x.fault(), NONE);
        Check.feed(x, "x");
        Edge.due("fault() ahead of city()", x.fault(), NONE);
        x.city();
        Edge.due("fault() at the first letter", x.fault(), 0);
        Check.feed(x, "n1;x");
        Edge.due("fault() of the latest city(), not of THE TEXT", x.fault(), 0);
        x.city();
        Edge.due("fault() at a later letter", x.fault(), 3);
        Check.feed(x, "n1;");
        x.city();
        Edge.due("fault() of a text without", x.fault(), NONE);
        Check.feed(x, "n1");
        x.city();
        Edge.due("fault() at the end", x.fault(), 2);
        x.city();
        Edge.due("fault() of an empty text", x.fault(), NONE);
        Edge.city("n1;" + " ".repeat(236) + "x", -11, 239);
        Edge.city("n1" + " ".repeat(238), -11, 240);
    }

    private static void told() {
        Edge.says(5, "13 how many can be undone. OUTSIDE.");
        for (int what : FAR) {
            Edge.changesNothing("told(" + what + ")", OUTSIDE, x -> x.told(what));
        }
        Edge.changesNothing("told(14)", OUTSIDE, x -> x.told(14));
        for (int what = 0; what < 14; what++) {
            int k = what;
            int[] due = {4, 3, 2, 3, 1, 6, 12, 1, 10, 1, 1, 2, 2, 2};
            Edge.changesNothing("told(" + what + ")", due[what], x -> x.told(k));
        }
        Edge.says(5, "6 WALLS (a SET), 7 who is HOME (a SET of CLIENTS)");
        BlindGuides x = Check.cityOf("n8;g0 1 1;e0 0;e0 0;e0 0;e0 0;e0 0;e0 0;");
        for (int k = 0; k < 8; k++) {
            Edge.due("told(6)", x.told(6), (1 << k) - 1);
            x.wall(k, true);
        }
        Edge.due("told(6): all", x.told(6), 255);
        for (int e = 0; e < 6; e++) {
            Edge.due("told(7)", x.told(7), (1 << e) - 1);
            x.hire(0, e);
        }
        Edge.due("told(7): all", x.told(7), 63);
        Edge.says(5, "10 TURNS HEARD (NONE: not even where one began), 11 HERE");
        Edge.due("told(10) ahead", x.told(10), NONE);
        x.begin(5);
        Edge.due("told(10), though one can be nowhere", x.told(10), 0);
        Edge.due("told(11): nowhere", x.told(11), 0);
        x.begin(0);
        Edge.due("told(11): all", x.told(11), 255);
        for (int i = 1; i <= 8; i++) {
            x.hear(0, 0);
            Edge.due("told(10)", x.told(10), i);
        }
        x.hear(0, 0);
        Edge.due("told(10): no more", x.told(10), 8);
        x.tear();
        Edge.due("told(10) behind tear()", x.told(10), NONE);
    }

    private static void talk() {
        Edge.says(5, "TALK: the fewest GUIDES (a SET of GUIDES; of like ones the least) whose HEADS together have all CLIENTS that any HEAD has.");
        Edge.due("no guides", Check.cityOf("n1;e0 0;").told(9), 0);
        dueTalk(0, 0, 0, 0, 0, 0, 0);
        dueTalk(1, 1, 0, 0, 0, 0, 0);
        dueTalk(32, 0, 0, 0, 0, 0, 1);
        dueTalk(63, 1, 2, 4, 8, 16, 32);
        dueTalk(1, 63, 63, 63, 63, 63, 63);
        dueTalk(32, 31, 31, 31, 31, 31, 63);
        // two are fewer than three, though the three are a lesser number
        dueTalk(24, 3, 12, 48, 7, 56, 0);
        dueTalk(6, 1, 3, 12, 2, 0, 8);
        // of like ones the least: guides 1 and 2 are 6, guides 0 and 3 are 9
        dueTalk(6, 3, 5, 10, 12, 0, 0);
        dueTalk(3, 3, 12, 12, 3, 0, 0);
    }

    private static void dueTalk(int due, int... heads) {
        BlindGuides x = Check.cityOf("n1;g0 1 1;g0 1 1;g0 1 1;g0 1 1;g0 1 1;g0 1 1;e0 0;e0 0;e0 0;e0 0;e0 0;e0 0;");
        StringBuilder told = new StringBuilder("TALK of heads");
        for (int g = 0; g < 6; g++) {
            told.append(' ').append(heads[g]);
            for (int e = 0; e < 6; e++) {
                if ((heads[g] >> e & 1) != 0) {
                    x.hire(g, e);
                }
            }
            x.night(1);
        }
        Edge.due(told.toString(), x.told(9), due);
    }

    private static void crossing() {
        Edge.says(6, "1 to 3 where TURNS 0 to 2 lead, 4 1 there is a WALL, 0 not. UNKNOWN, OUTSIDE.");
        int[] rows = {1, 1, 2, 0, 0, 1, 3, 0, 2, 1};
        for (int what = 0; what < 5; what++) {
            int k = what;
            Edge.changesNothing("crossing(0, " + what + ")", rows[what], x -> x.crossing(0, k));
            Edge.changesNothing("crossing(2, " + what + ")", rows[5 + what], x -> x.crossing(2, k));
        }
        Edge.changesNothing("crossing(4, 0)", UNKNOWN, x -> x.crossing(4, 0));
        Edge.changesNothing("crossing(0, 5)", OUTSIDE, x -> x.crossing(0, 5));
        Edge.changesNothing("crossing(4, 5)", UNKNOWN, x -> x.crossing(4, 5));
        for (int far : FAR) {
            Edge.changesNothing("crossing(" + far + ", 0)", UNKNOWN, x -> x.crossing(far, 0));
            Edge.changesNothing("crossing(3, " + far + ")", OUTSIDE, x -> x.crossing(3, far));
            Edge.changesNothing("crossing(" + far + ", " + far + ")", UNKNOWN, x -> x.crossing(far, far));
        }
        BlindGuides x = Check.cityOf("n8;c0 1 2 3;");
        x.wall(7, true);
        Edge.due("crossing(7, 4)", x.crossing(7, 4), 1);
        Edge.due("crossing(6, 4)", x.crossing(6, 4), 0);
        Edge.due("crossing(7, 3)", x.crossing(7, 3), 7);
        Edge.due("crossing(8, 4)", x.crossing(8, 4), UNKNOWN);
    }

    private static void guide() {
        Edge.says(7, "what = 0 where he stands, 1 P, 2 what he knows (a SET), 3 his HEAD (a SET of CLIENTS), 4 REACH. UNKNOWN, OUTSIDE.");
        int[][] rows = {{3, 10, 15, 1, 8}, {1, 5, 7, 0, 2}, {3, 7, 9, 0, 8}};
        for (int g = 0; g < 3; g++) {
            for (int what = 0; what < 5; what++) {
                int h = g;
                int k = what;
                Edge.changesNothing("guide(" + g + ", " + what + ")", rows[g][what], x -> x.guide(h, k));
            }
        }
        Edge.changesNothing("guide(3, 0)", UNKNOWN, x -> x.guide(3, 0));
        Edge.changesNothing("guide(0, 5)", OUTSIDE, x -> x.guide(0, 5));
        Edge.changesNothing("guide(3, 5)", UNKNOWN, x -> x.guide(3, 5));
        for (int far : FAR) {
            Edge.changesNothing("guide(" + far + ", 0)", UNKNOWN, x -> x.guide(far, 0));
            Edge.changesNothing("guide(2, " + far + ")", OUTSIDE, x -> x.guide(2, far));
            Edge.changesNothing("guide(" + far + ", " + far + ")", UNKNOWN, x -> x.guide(far, far));
        }
        Edge.says(7, "REACH: CROSSINGS (a SET) to which a GUIDE can lead from where he stands (that one, too).");
        BlindGuides x = Check.cityOf("n8;c0 1 0 0;c0 1 2 1;c0 2 2 3;c0 4 3 3;c0 4 5 4;c0 5 5 6;c0 7 6 6;g0 1 255;g0 1 254;g0 1 239;g7 1 1;g3 1 16;");
        int[] reach = {255, 255, 15, 128, 24};
        for (int g = 0; g < 5; g++) {
            Edge.due("guide(" + g + ", 4)", x.guide(g, 4), reach[g]);
        }
        x.wall(0, true);
        Edge.due("a wall where he stands", x.guide(0, 4), 255);
        x.wall(5, true);
        Edge.due("a wall in the way", x.guide(0, 4), 31);
        x.wall(1, true);
        Edge.due("walls all about", x.guide(0, 4), 1);
        Edge.due("a city of one", Check.cityOf("n1;g0 1 1;").guide(0, 4), 1);
    }

    private static void client() {
        Edge.says(8, "what = 0 F, 1 T, 2 1 HOME, 0 not. UNKNOWN, OUTSIDE.");
        int[][] rows = {{0, 3, 1}, {1, 0, 0}};
        for (int e = 0; e < 2; e++) {
            for (int what = 0; what < 3; what++) {
                int h = e;
                int k = what;
                Edge.changesNothing("client(" + e + ", " + what + ")", rows[e][what], x -> x.client(h, k));
            }
        }
        Edge.changesNothing("client(2, 0)", UNKNOWN, x -> x.client(2, 0));
        Edge.changesNothing("client(0, 3)", OUTSIDE, x -> x.client(0, 3));
        Edge.changesNothing("client(2, 3)", UNKNOWN, x -> x.client(2, 3));
        for (int far : FAR) {
            Edge.changesNothing("client(" + far + ", 0)", UNKNOWN, x -> x.client(far, 0));
            Edge.changesNothing("client(1, " + far + ")", OUTSIDE, x -> x.client(1, far));
            Edge.changesNothing("client(" + far + ", " + far + ")", UNKNOWN, x -> x.client(far, far));
        }
        BlindGuides x = Check.cityOf("n8;g0 1 1;e0 0;e7 0;e0 7;e1 1;e2 2;e6 5;");
        Edge.due("client(5, 0)", x.client(5, 0), 6);
        Edge.due("client(5, 1)", x.client(5, 1), 5);
        Edge.due("client(4, 2)", x.client(4, 2), 0);
        x.hire(0, 4);
        Edge.due("client(4, 2)", x.client(4, 2), 1);
        Edge.due("client(5, 2)", x.client(5, 2), 0);
        x.night(1);
        Edge.due("client(4, 2) behind a night", x.client(4, 2), 0);
    }
}
