/** Promises 1 to 8: a new object, the text and its faults, what is told. */
public final class CityTest {
    private static final int NONE = -1, UNKNOWN = -1000000001, OUTSIDE = -1000000002, NOT = -1000000003, FULL = -1000000004;
    private static final String CITY = "n4;c1 1 2 0;c2 2 3 1;c1 3 0 2;g0 10 15;g1 5 6;g3 7 9;e0 3;e1 0;m1,6,9;";

    public static void main(String[] args) {
        newObject();
        feed();
        textsWithoutFault();
        textsWithFault();
        faultLeavesAllElse();
        cityStartsAnew();
        nothingIsLeft();
        emptyTextIsNoCity();
        told();
        crossing();
        guide();
        client();
        Check.end();
    }

    private static void newObject() {
        BlindGuides x = new BlindGuides();
        for (int what = 0; what < 14; what++) {
            Check.due("told(" + what + ") of a new object", x.told(what), what == 10 ? NONE : 0);
        }
        Check.due("fault() of a new object", x.fault(), NONE);
        Check.due("crossing(0, 0) of no city", x.crossing(0, 0), UNKNOWN);
        Check.due("guide(0, 0) of no city", x.guide(0, 0), UNKNOWN);
        Check.due("client(0, 0) of no city", x.client(0, 0), UNKNOWN);
        Check.due("goBack(0) of a new object", x.goBack(0), NOT);
        Check.due("seed(0) of a new object", x.seed(0), 0);
    }

    private static void feed() {
        BlindGuides x = new BlindGuides();
        Check.due("feed(-1)", x.feed(-1), OUTSIDE);
        Check.due("feed(256)", x.feed(256), OUTSIDE);
        Check.due("feed(0)", x.feed(0), 1);
        Check.due("feed(255)", x.feed(255), 2);
        for (int i = 3; i <= 240; i++) {
            Check.due("feed(32)", x.feed(32), i);
        }
        Check.due("feed(32) to a full text", x.feed(32), FULL);
        Check.due("feed(256) to a full text", x.feed(256), OUTSIDE);
        Check.due("told(3) of a full text", x.told(3), 240);
        Check.due("city() of a full text", x.city(), -11);
        Check.due("told(3) behind city()", x.told(3), 0);
        Check.due("feed(32) behind city()", x.feed(32), 1);
    }

    private static void city(String text, int answer, int faultAt) {
        BlindGuides x = new BlindGuides();
        Check.feed(x, text);
        Check.due("city() of '" + text + "'", x.city(), answer);
        Check.due("fault() of '" + text + "'", x.fault(), faultAt);
        Check.due("told(3) behind '" + text + "'", x.told(3), 0);
        Check.due("told(0) behind '" + text + "'", x.told(0), Math.max(answer, 0));
    }

    private static void textsWithoutFault() {
        city("", 0, NONE);
        city("   ", 0, NONE);
        city("n1;", 1, NONE);
        city("n8;", 8, NONE);
        city("n008;", 8, NONE);
        city("  n  2  ;  c  5  1  001  0  ;  ", 2, NONE);
        city("n2;c0 0 0 0;c0 0 0 0;", 2, NONE);
        city("n1;g0 0 1;g0 99 1;g0 0 1;g0 0 1;g0 0 1;g0 0 1;", 1, NONE);
        city("n8;g7 0 255;", 8, NONE);
        city("n1;e0 0;e0 0;e0 0;e0 0;e0 0;e0 0;", 1, NONE);
        city("n1;m0;", 1, NONE);
        city("n1;m0,1,2,3,4,5,6,7,8,9,0,1;", 1, NONE);
        city("n1;m 0 , 001 ;", 1, NONE);
        city("n2;m1;e0 1;g0 1 3;c0 1 1 1;", 2, NONE);
    }

    private static void textsWithFault() {
        String[] cannotStand = {"x@0", ";@0", "1@0", "N1;@0", "c0 0 0 0;@0", "  m1;@2", "n@1", "n  @3", "n;@1", "nx@1", "n1@2", "n1 @3",
            "n1 1;@3", "n1 1111;@3", "n1,@2", "n1c@2", "n1;x@3", "n1; x@4", "n1;;@3", "n1;1@3", "n1;c@4", "n1;c0 0 0;@9", "n1;c0 0 0 @10",
            "n1;c0 0 0 0@11", "n1;c0 0 0 0 0;@12", "n1;c0 0 n@8", "n1;c,@4", "n1;g0 0;@7", "n1;g0 0 1 1;@10", "n1;e0;@5", "n1;e0 0 0;@8",
            "n1;m@4", "n1;m;@4", "n1;m,@4", "n1;m1,;@6", "n1;m1,@6", "n1;m1 2;@6", "n1;m1,,2;@6", "n1;m0,1,2,3,4,5,6,7,8,9,0,1,2;@27",
            "n1;m0,1,2,3,4,5,6,7,8,9,0,1 , 2;@28", "n1;\t@3", "n1;" + (char) 233 + "@3", "n1;n@3!", "n 1 ;m1 ; m@10!"};
        for (String row : cannotStand) {
            boolean tooMany = row.endsWith("!");
            int at = row.lastIndexOf('@');
            String place = row.substring(at + 1, tooMany ? row.length() - 1 : row.length());
            city(row.substring(0, at), tooMany ? -13 : -11, Integer.parseInt(place));
        }
        String[] outOfBounds = {"n0;@1", "n9;@1", "n 1000;@2", "n0001;@1", "n999999999999999999999;@1", "n4294967297;@1", "n1;c6 0 0 0;@4",
            "n1;c0 1 0 0;@6", "n1;c0 0 1 0;@8", "n1;c0 0 0 1;@10", "n1;c0 0 0  0000;@11", "n1;g1 0 1;@4", "n1;g0 100 1;@6", "n1;g0 0 0;@8",
            "n1;g0 0 2;@8", "n7;g0 0 128;@8", "n8;g0 0 256;@8", "n1;e1 0;@4", "n1;e0 1;@6", "n1;m10;@4", "n1;m0,10;@6", "n1;m0, 0000;@7", "n9@1"};
        for (String row : outOfBounds) {
            int at = row.lastIndexOf('@');
            city(row.substring(0, at), -12, Integer.parseInt(row.substring(at + 1)));
        }
        city("n1; n1;", -13, 4);
        city("n1;c0 0 0 0;c0 0 0 0;", -13, 12);
        city("n1;g0 0 1;g0 0 1;g0 0 1;g0 0 1;g0 0 1;g0 0 1;g", -13, 45);
        city("n1;e0 0;e0 0;e0 0;e0 0;e0 0;e0 0;e", -13, 33);
        city("n1;m1;m1;", -13, 6);
    }

    private static void faultLeavesAllElse() {
        BlindGuides x = Check.cityOf(CITY);
        x.hire(0, 0);
        x.begin(1);
        x.write(0, 3);
        x.keep(1);
        x.wall(2, true);
        Check.feed(x, "n2;c1 1 1 9;");
        Check.due("city() with a fault", x.city(), -12);
        Check.due("fault()", x.fault(), 10);
        int[] told = {4, 3, 2, 0, 0, 1, 4, 1, 20, 1, 0, 5, 1, 1};
        for (int what = 0; what < told.length; what++) {
            Check.due("told(" + what + ") behind a fault", x.told(what), told[what]);
        }
        Check.due("crossing(0, 1) behind a fault", x.crossing(0, 1), 1);
        Check.due("goBack(1) behind a fault", x.goBack(1), 1);
        Check.due("told(6) of the image", x.told(6), 0);
    }

    private static void cityStartsAnew() {
        BlindGuides x = Check.cityOf(CITY);
        x.hire(0, 0);
        x.night(2);
        x.wall(1, true);
        x.learn(1, 0);
        x.begin(1);
        x.write(0, 0);
        x.keep(0);
        x.forget(0);
        x.seed(77);
        Check.feed(x, "n3;c2 0 1 2;g2 3 7;g0 4 1;e1 2;");
        Check.due("city() again", x.city(), 3);
        int[] told = {3, 2, 1, 0, 0, 0, 0, 0, 0, 0, NONE, 0, 0, 0};
        for (int what = 0; what < told.length; what++) {
            Check.due("told(" + what + ") of the second city", x.told(what), told[what]);
        }
        Check.due("guide(0, 0) of the second city", x.guide(0, 0), 2);
        Check.due("guide(1, 2) of the second city", x.guide(1, 2), 1);
        Check.due("guide(2, 0) of the second city", x.guide(2, 0), UNKNOWN);
        Check.due("crossing(1, 2) untold in the second city", x.crossing(1, 2), 1);
        Check.due("goBack(0) in the second city", x.goBack(0), NOT);
        Check.due("undo() in the second city", x.undo(), NOT);
        Check.due("began() in the second city", x.began(), 0);
        Check.due("seed(0): the seed stays", x.seed(0), 77);
    }

    /** Nothing of a city is left in the next one but what its text tells again. */
    private static void nothingIsLeft() {
        BlindGuides x = Check.cityOf("n3;c3 1 2 1;c4 0 0 0;g1 5 7;g0 9 7;e0 1;e0 2;e0 1;m7,8,9;");
        Check.due("match(-3) of the first city", x.match(-3), 2 + 4);
        x.hire(0, 1);
        x.hire(1, 2);
        secondCity(x);
        secondCity(x);
    }

    private static void secondCity(BlindGuides x) {
        Check.feed(x, "n3;g0 5 7;g0 5 7;e0 0;");
        Check.due("city() again", x.city(), 3);
        Check.due("crossing(0, 0)", x.crossing(0, 0), 0);
        Check.due("crossing(0, 1)", x.crossing(0, 1), 0);
        Check.due("crossing(1, 0)", x.crossing(1, 0), 0);
        Check.due("guide(0, 3)", x.guide(0, 3), 0);
        Check.due("guide(1, 3)", x.guide(1, 3), 0);
        Check.due("told(5)", x.told(5), 0);
        Check.due("match(-1)", x.match(-1), 1);
        Check.due("match(-3)", x.match(-3), 0);
        for (int night = 1; night < 4; night++) {
            x.night(1);
            Check.due("MOON untold", x.told(5), 0);
        }
    }

    private static void emptyTextIsNoCity() {
        BlindGuides x = Check.cityOf(CITY);
        x.feed(' ');
        Check.due("city() of a blank", x.city(), 0);
        Check.due("told(0) of no city", x.told(0), 0);
        Check.due("told(5) of no city", x.told(5), 0);
        Check.due("guide(0, 0) of no city", x.guide(0, 0), UNKNOWN);
        Check.due("night(1) of no city", x.night(1), NOT);
        Check.due("wall(0, true) of no city", x.wall(0, true), UNKNOWN);
    }

    private static void told() {
        BlindGuides x = Check.cityOf(CITY);
        x.feed('n');
        x.hire(1, 1);
        Check.due("hire(0, 0)", x.hire(0, 0), 20);
        x.wall(0, true);
        x.wall(3, true);
        x.begin(2);
        x.hear(0, 1);
        x.write(0, 0);
        x.write(0, 0);
        int[] told = {4, 3, 2, 1, 0, 1, 9, 1, 20, 1, 1, 4, 2, 3};
        for (int what = 0; what < told.length; what++) {
            Check.due("told(" + what + ")", x.told(what), told[what]);
        }
        Check.due("told(-1)", x.told(-1), OUTSIDE);
        Check.due("told(14)", x.told(14), OUTSIDE);
        int[] moons = {6, 9, 1, 6};
        for (int k = 0; k < moons.length; k++) {
            x.night(1);
            Check.due("MOON of night " + (k + 1), x.told(5), moons[k]);
        }
        talk();
    }

    /** Heads 3, 1, 2, 3 in turn: of the fewest that have all, the least set. */
    private static void talk() {
        BlindGuides x = Check.cityOf("n1;g0 1 1;g0 1 1;g0 1 1;g0 1 1;e0 0;e0 0;e0 0;");
        Check.due("TALK of empty heads", x.told(9), 0);
        x.hire(1, 0);
        x.hire(2, 1);
        Check.due("TALK of heads 0, 1, 2, 0", x.told(9), 6);
        x.night(1);
        x.hire(3, 0);
        x.hire(3, 1);
        Check.due("TALK of heads 0, 1, 2, 3", x.told(9), 8);
        x.night(1);
        x.hire(0, 1);
        x.hire(0, 0);
        Check.due("TALK of heads 3, 1, 2, 3", x.told(9), 1);
        x.hire(1, 2);
        Check.due("TALK of heads 3, 5, 2, 3", x.told(9), 3);
    }

    private static void crossing() {
        BlindGuides x = Check.cityOf(CITY);
        int[] first = {1, 1, 2, 0, 0};
        int[] untold = {0, 3, 3, 3, 0};
        for (int what = 0; what < 5; what++) {
            Check.due("crossing(0, " + what + ")", x.crossing(0, what), first[what]);
            Check.due("crossing(3, " + what + ")", x.crossing(3, what), untold[what]);
        }
        x.wall(3, true);
        Check.due("crossing(3, 4) with a wall", x.crossing(3, 4), 1);
        Check.due("crossing(4, 0)", x.crossing(4, 0), UNKNOWN);
        Check.due("crossing(-1, 9)", x.crossing(-1, 9), UNKNOWN);
        Check.due("crossing(0, 5)", x.crossing(0, 5), OUTSIDE);
        Check.due("crossing(0, -1)", x.crossing(0, -1), OUTSIDE);
    }

    private static void guide() {
        BlindGuides x = Check.cityOf(CITY);
        int[][] rows = {{0, 10, 15, 0, 15}, {1, 5, 6, 0, 6}, {3, 7, 9, 0, 8}};
        for (int g = 0; g < 3; g++) {
            for (int what = 0; what < 5; what++) {
                Check.due("guide(" + g + ", " + what + ")", x.guide(g, what), rows[g][what]);
            }
        }
        x.wall(2, true);
        x.wall(1, true);
        Check.due("REACH of one who stands at a wall", x.guide(1, 4), 2);
        Check.due("guide(3, 0)", x.guide(3, 0), UNKNOWN);
        Check.due("guide(-1, 9)", x.guide(-1, 9), UNKNOWN);
        Check.due("guide(0, 5)", x.guide(0, 5), OUTSIDE);
        Check.due("guide(0, -1)", x.guide(0, -1), OUTSIDE);
        // he stands where he knows nothing, and leads away from it
        BlindGuides y = Check.cityOf("n3;c0 1 1 1;c0 2 2 2;c0 0 0 0;g0 1 6;");
        Check.due("REACH from a crossing that he does not know", y.guide(0, 4), 7);
    }

    private static void client() {
        BlindGuides x = Check.cityOf(CITY);
        Check.due("client(0, 0)", x.client(0, 0), 0);
        Check.due("client(0, 1)", x.client(0, 1), 3);
        Check.due("client(0, 2)", x.client(0, 2), 0);
        x.hire(0, 0);
        Check.due("client(0, 2) behind hire", x.client(0, 2), 1);
        Check.due("client(1, 2)", x.client(1, 2), 0);
        Check.due("client(2, 0)", x.client(2, 0), UNKNOWN);
        Check.due("client(-1, 9)", x.client(-1, 9), UNKNOWN);
        Check.due("client(0, 3)", x.client(0, 3), OUTSIDE);
        Check.due("client(0, -1)", x.client(0, -1), OUTSIDE);
    }
}
