import java.util.ArrayList;
import java.util.List;

/** A text cut into its signs first, and then held against the rows of what each word asks for. */
final class ModelText {
    int n = 0;
    int fault = 0;
    int faultAt = -1;
    /** Of each crossing: its sound and the ends of its turns. */
    final List<int[]> rows = new ArrayList<>();
    final List<int[]> guides = new ArrayList<>();
    final List<int[]> clients = new ArrayList<>();
    final List<Integer> moons = new ArrayList<>();

    private record Sign(int place, String word) {
    }

    private final List<Sign> signs = new ArrayList<>();
    private int next = 0;
    private int crossingsTold = 0;

    ModelText(String text) {
        for (int i = 0; i < text.length();) {
            int end = i + 1;
            if (text.charAt(i) != ' ') {
                if (isFigure(text.charAt(i))) while (end < text.length() && isFigure(text.charAt(end))) end++;
                signs.add(new Sign(i, text.substring(i, end)));
            }
            i = end;
        }
        while (fault == 0 && next < signs.size()) clause();
        if (fault != 0 && faultAt < 0) faultAt = text.length();
    }

    private static boolean isFigure(char c) {
        return "0123456789".indexOf(c) >= 0;
    }

    private void fail(int number) {
        if (fault != 0) return;
        fault = number;
        faultAt = next < signs.size() ? signs.get(next).place() : -1;
    }

    private void clause() {
        String word = signs.get(next).word();
        if (n == 0 && !word.equals("n") || "ncgem".indexOf(word) < 0) {
            fail(1);
            return;
        }
        boolean again = word.equals("n") && n > 0 || word.equals("m") && !moons.isEmpty() || word.equals("c") && crossingsTold == n
            || word.equals("g") && guides.size() == 6 || word.equals("e") && clients.size() == 6;
        if (again) {
            fail(3);
            return;
        }
        next++;
        int last = n - 1;
        switch (word) {
            case "n" -> tellCount(row(1, 8));
            case "c" -> tellCrossing(row(0, 5, 0, last, 0, last, 0, last));
            case "g" -> guides.add(row(0, last, 0, 99, 1, Math.min(255, (1 << n) - 1)));
            case "e" -> clients.add(row(0, last, 0, last));
            default -> tellMoons();
        }
    }

    private void tellCount(int[] row) {
        n = row[0];
        for (int x = 0; x < n && n < 9; x++) rows.add(new int[] {0, x, x, x});
    }

    private void tellCrossing(int[] row) {
        rows.set(crossingsTold++, row);
    }

    private void tellMoons() {
        moons.add(number(0, 9));
        while (fault == 0 && moons.size() < 12 && is(",")) {
            next++;
            moons.add(number(0, 9));
        }
        sign(";");
    }

    private int[] row(int... bounds) {
        int[] row = new int[bounds.length / 2];
        for (int i = 0; i < row.length; i++) row[i] = number(bounds[2 * i], bounds[2 * i + 1]);
        sign(";");
        return row;
    }

    private boolean is(String word) {
        return next < signs.size() && signs.get(next).word().equals(word);
    }

    private void sign(String word) {
        if (is(word)) next++;
        else fail(1);
    }

    private int number(int least, int most) {
        String word = next < signs.size() ? signs.get(next).word() : "";
        if (word.isEmpty() || !isFigure(word.charAt(0))) {
            fail(1);
            return least;
        }
        if (word.length() > 3 || Integer.parseInt(word) < least || Integer.parseInt(word) > most) {
            fail(2);
            return least;
        }
        next++;
        return Integer.parseInt(word);
    }
}
