import java.util.Random;

/** Runs of calls drawn from fixed seeds, each answer held against the model's. */
public final class ModelTest {
    private static final int RUNS = 600;
    /** The document says nothing of later calls on one object. */
    private static final int CALLS = 512;
    private static final int CALLS_A_STEP = 21;
    private static final int CALLS_A_TEXT = 242;

    private final Random draws;
    private final BlindGuides x = new BlindGuides();
    private final Model model = new Model();
    private int calls = 0;

    private ModelTest(long seed) {
        draws = new Random(seed);
    }

    public static void main(String[] args) {
        for (int run = 0; run < RUNS && Check.wrongSoFar() == 0; run++) {
            new ModelTest(run).run(run);
        }
        for (int run = 0; run < 20 && Check.wrongSoFar() == 0; run++) {
            new ModelTest(-1 - run).earnTheMost(run);
        }
        Check.end();
    }

    private void run(int run) {
        boolean plain = run % 3 != 0;
        if (draws.nextInt(10) > 0) {
            tell(plain ? validText() : spoiltText());
        }
        while (calls <= CALLS - CALLS_A_STEP && Check.wrongSoFar() == 0) {
            int kind = draws.nextInt(plain ? 60 : 12);
            if (kind == 0 && calls <= CALLS - CALLS_A_TEXT && draws.nextInt(plain ? 20 : 1) == 0) {
                tell(draws.nextBoolean() ? validText() : spoiltText());
            } else {
                call(draws.nextInt(34));
                if (draws.nextInt(4) == 0) {
                    toldAll();
                }
            }
        }
        if (Check.wrongSoFar() > 0) {
            System.out.println("in the run of seed " + run);
        }
    }

    /** Small dear cities, so that what is paid in all comes to the most. */
    private void earnTheMost(int run) {
        tell("n2;c0 1 1 1;c0 0 0 0;g0 99 3;g1 9" + run % 10 + " 3;e0 1;e1 0;e0 1;e1 0;e0 1;e1 0;");
        for (int i = 0; i < 148; i++) {
            due("drift(60)", x.drift(60), model.drift(60));
        }
        for (int i = 0; i < 80; i++) {
            call(draws.nextInt(9));
            due("told(8)", x.told(8), model.told(8));
        }
    }

    private void due(String call, int got, int want) {
        calls++;
        if (calls > CALLS) {
            Check.due("calls on one object", calls, CALLS);
        }
        Check.due("call " + calls + ": " + call, got, want);
    }

    private void tell(String text) {
        for (char letter : text.toCharArray()) {
            due("feed(" + (int) letter + ")", x.feed(letter), model.feed(letter));
        }
        due("city() of " + text, x.city(), model.city());
        due("fault() of " + text, x.fault(), model.fault());
    }

    private String blank() {
        return draws.nextInt(12) == 0 ? "  ".substring(draws.nextInt(2)) : "";
    }

    private String validText() {
        int n = 1 + draws.nextInt(8);
        StringBuilder text = new StringBuilder(blank() + "n" + blank() + n + blank() + ";");
        int sounds = 1 + draws.nextInt(6);
        for (int i = draws.nextInt(5) == 0 ? draws.nextInt(n + 1) : n; i > 0; i--) {
            text.append("c" + draws.nextInt(sounds) + " " + draws.nextInt(n) + " " + draws.nextInt(n) + " " + draws.nextInt(n) + blank() + ";");
        }
        int first = draws.nextInt(3);
        for (int part = 0; part < 3; part++) {
            appendPart(text, (first + part) % 3, n);
        }
        return text.length() > 240 ? text.substring(0, text.lastIndexOf(";", 239) + 1) : text.toString();
    }

    private void appendPart(StringBuilder text, int part, int n) {
        if (part == 0) {
            for (int i = draws.nextInt(7); i > 0; i--) {
                int known = draws.nextBoolean() ? (1 << n) - 1 : 1 + draws.nextInt((1 << n) - 1);
                text.append("g" + draws.nextInt(n) + " " + draws.nextInt(draws.nextInt(4) == 0 ? 4 : 100) + " " + known + ";");
            }
        } else if (part == 1) {
            for (int i = draws.nextInt(7); i > 0; i--) {
                text.append("e" + blank() + draws.nextInt(n) + " " + blank() + draws.nextInt(n) + ";");
            }
        } else if (draws.nextBoolean()) {
            text.append("m" + draws.nextInt(10));
            for (int i = draws.nextInt(6); i > 0; i--) {
                text.append(blank() + "," + blank() + draws.nextInt(10));
            }
            text.append(";");
        }
    }

    private String spoiltText() {
        StringBuilder text = new StringBuilder(validText());
        String letters = "ncgem;,  0123456789xN-";
        for (int i = draws.nextInt(3); i >= 0; i--) {
            int place = draws.nextInt(text.length() + 1);
            char letter = letters.charAt(draws.nextInt(letters.length()));
            int kind = draws.nextInt(4);
            if (kind == 0 && text.length() < 240) {
                text.insert(place, letter);
            } else if (kind == 1 && place < text.length()) {
                text.deleteCharAt(place);
            } else if (kind == 2 && place < text.length()) {
                text.setCharAt(place, letter);
            } else if (kind == 3 && draws.nextInt(4) == 0) {
                text.setLength(place);
            }
        }
        return text.toString();
    }

    private void toldAll() {
        for (int what = 0; what < 14; what++) {
            due("told(" + what + ")", x.told(what), model.told(what));
        }
        for (int g = 0; g < 6; g++) {
            int what = draws.nextInt(5);
            due("guide(" + g + ", " + what + ")", x.guide(g, what), model.guide(g, what));
        }
    }

    private int number(int least, int most) {
        if (draws.nextInt(40) == 0) {
            int[] far = {Integer.MIN_VALUE, Integer.MAX_VALUE, -1, least - 1, most + 1, 1 << 16};
            return far[draws.nextInt(far.length)];
        }
        return least + draws.nextInt(most - least + 1);
    }

    private int place() {
        return number(0, Math.max(0, model.told(0) - 1));
    }

    private int guide() {
        return number(0, Math.max(0, model.told(1) - 1));
    }

    private int client() {
        return number(0, Math.max(0, model.told(2) - 1));
    }

    private int set() {
        return number(0, (1 << model.told(0)) - 1);
    }

    private void call(int kind) {
        if (kind < 9) {
            callDeed(kind);
        } else if (kind < 22) {
            callTried(kind);
        } else {
            callHeard(kind);
        }
    }

    private void callDeed(int kind) {
        int g = guide();
        int e = client();
        int c = place();
        int n = number(1, draws.nextInt(3) == 0 ? 60 : 3);
        switch (kind) {
            case 0, 1, 2 -> due("hire(" + g + ", " + e + ")", x.hire(g, e), model.hire(g, e));
            case 3 -> due("night(" + n + ")", x.night(n), model.night(n));
            case 4 -> due("nowhere(" + g + ", " + n + ")", x.nowhere(g, n), model.nowhere(g, n));
            case 5 -> {
                boolean is = draws.nextInt(3) == 0;
                due("wall(" + c + ", " + is + ")", x.wall(c, is), model.wall(c, is));
            }
            case 6 -> due("learn(" + g + ", " + c + ")", x.learn(g, c), model.learn(g, c));
            case 7 -> due("drift(" + n + ")", x.drift(n), model.drift(n));
            default -> {
                if (draws.nextInt(4) == 0) {
                    due("forget(" + g + ")", x.forget(g), model.forget(g));
                } else {
                    due("undo()", x.undo(), model.undo());
                }
            }
        }
    }

    private void callTried(int kind) {
        int g = guide();
        int e = client();
        int a = place();
        int b = place();
        int s = set();
        int what = number(0, 2);
        switch (kind) {
            case 9 -> {
                int of = number(0, 4);
                due("crossing(" + a + ", " + of + ")", x.crossing(a, of), model.crossing(a, of));
            }
            case 10 -> due("client(" + e + ", " + what + ")", x.client(e, what), model.client(e, what));
            case 11, 12 -> due("leads(" + g + ", " + e + ", " + what + ")", x.leads(g, e, what), model.leads(g, e, what));
            case 13 -> due("way(" + g + ", " + a + ", " + b + ")", x.way(g, a, b), model.way(g, a, b));
            case 14, 15 -> {
                int k = number(-3, Math.max(0, model.told(2) - 1));
                due("match(" + k + ")", x.match(k), model.match(k));
            }
            case 16 -> due("fromWherever(" + s + ", " + a + ", " + what / 2 + ")", x.fromWherever(s, a, what / 2), model.fromWherever(s, a, what / 2));
            case 17 -> due("meet(" + s + ", " + what + ")", x.meet(s, what), model.meet(s, what));
            case 18 -> due("ring(" + g + ")", x.ring(g), model.ring(g));
            case 19 -> due("allGoBy(" + g + ", " + a + ", " + b + ")", x.allGoBy(g, a, b), model.allGoBy(g, a, b));
            case 20 -> due("pose(" + g + ", " + s + ")", x.pose(g, s), model.pose(g, s));
            default -> {
                int n = number(0, 60);
                int q = number(0, 100);
                due("clouds(" + n + ", " + q + ")", x.clouds(n, q), model.clouds(n, q));
            }
        }
    }

    private void callHeard(int kind) {
        int turn = number(0, 2);
        int sound = model.told(0) > 0 && draws.nextInt(3) > 0 ? model.crossing(draws.nextInt(model.told(0)), 0) : number(0, 5);
        int i = number(0, 1);
        switch (kind) {
            case 22 -> due("begin(" + sound + ")", x.begin(sound), model.begin(sound));
            case 23, 24 -> due("hear(" + turn + ", " + sound + ")", x.hear(turn, sound), model.hear(turn, sound));
            case 25 -> due("began()", x.began(), model.began());
            case 26 -> due("listen()", x.listen(), model.listen());
            case 27, 28 -> {
                int g = guide();
                int c = draws.nextInt(3) > 0 ? model.guide(g, 0) : place();
                due("write(" + g + ", " + c + ")", x.write(g, c), model.write(g, c));
            }
            case 29 -> due("judge()", x.judge(), model.judge());
            case 30 -> {
                if (draws.nextInt(6) == 0) {
                    due("tear()", x.tear(), model.tear());
                }
            }
            case 31 -> {
                int v = number(0, 1 << 30);
                due("seed(" + v + ")", x.seed(v), model.seed(v));
            }
            case 32 -> {
                if (draws.nextInt(6) == 0) {
                    due("keep(" + i + ")", x.keep(i), model.keep(i));
                }
            }
            default -> {
                if (draws.nextInt(6) == 0) {
                    due("goBack(" + i + ")", x.goBack(i), model.goBack(i));
                }
            }
        }
    }
}
