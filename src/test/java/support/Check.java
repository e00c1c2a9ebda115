/** Counts answers that are not as due, and ends the test with exit code 1 if there was one. */
final class Check {
    private static int asked = 0;
    private static int wrong = 0;

    private Check() {
    }

    static void due(String call, long got, long want) {
        asked++;
        if (got != want) {
            wrong++;
            System.out.println(call + " answered " + got + ", due is " + want);
        }
    }

    static void feed(BlindGuides x, String text) {
        for (int i = 0; i < text.length(); i++) {
            due("feed(" + (int) text.charAt(i) + ")", x.feed(text.charAt(i)), i + 1);
        }
    }

    /** A new object with the city of the text. */
    static BlindGuides cityOf(String text) {
        BlindGuides x = new BlindGuides();
        feed(x, text);
        int crossings = x.city();
        due("city() of " + text + " has no fault", x.fault(), BlindGuides.NONE);
        due("city() of " + text, crossings, x.told(0));
        return x;
    }

    static int wrongSoFar() {
        return wrong;
    }

    static void end() {
        System.out.println(wrong == 0 ? asked + " answers are as due" : wrong + " of " + asked + " answers are not as due");
        if (wrong != 0) {
            System.exit(1);
        }
    }
}
