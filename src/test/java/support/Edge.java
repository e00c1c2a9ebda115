import java.io.IOException;
import java.io.UncheckedIOException;
import java.nio.file.Files;
import java.nio.file.Path;
import java.util.ArrayList;
import java.util.List;
import java.util.function.Supplier;

/** What the tests of the document's edges share: its sentences, and that what is refused or tried changes nothing. */
final class Edge {
    static final int NONE = -1, UNKNOWN = -1000000001, OUTSIDE = -1000000002, NOT = -1000000003, FULL = -1000000004;
    static final int LEAST = Integer.MIN_VALUE, MOST = Integer.MAX_VALUE;
    /** Four crossings, the last untold; three guides, two clients, three moons, of which the last two are bright. */
    static final String CITY = "n4;c1 1 2 0;c2 2 3 1;c1 3 0 2;g0 10 15;g1 5 6;g3 7 9;e0 3;e1 0;m1,6,9;";

    private static final String DOCUMENT = documentText();
    private static String promise = "";

    interface Call {
        int on(BlindGuides x);
    }

    private Edge() {
    }

    private static String documentText() {
        try {
            return Files.readString(Path.of("../shared/DOC.md")).replaceAll("\\s+", " ");
        } catch (IOException e) {
            throw new UncheckedIOException(e);
        }
    }

    /** The sentence that is tested next; the document must have it, in this promise or ahead of all promises. */
    static void says(int number, String words) {
        promise = "promise " + number + " (" + words + "): ";
        int start = DOCUMENT.indexOf("## Promise " + number + ":");
        int end = DOCUMENT.indexOf("## ", start + 1);
        String shared = DOCUMENT.substring(0, DOCUMENT.indexOf("## Promise 1:"));
        Check.due(promise + "the document says so", (DOCUMENT.substring(start, end) + shared).contains(words) ? 1 : 0, 1);
    }

    static void due(String call, int got, int want) {
        Check.due(promise + call, got, want);
    }

    static void city(String text, int answer, int faultAt) {
        BlindGuides x = new BlindGuides();
        Check.feed(x, text);
        due("city() of '" + text + "'", x.city(), answer);
        due("fault() of '" + text + "'", x.fault(), faultAt);
    }

    /** Much has been done in this city: something is so in every part of it, and a text has begun. */
    static BlindGuides muchDone() {
        BlindGuides x = muchDoneWithoutText();
        x.feed('n');
        x.feed('3');
        x.feed(';');
        return x;
    }

    static BlindGuides muchDoneWithoutText() {
        BlindGuides x = Check.cityOf(CITY);
        x.seed(77);
        x.night(1);
        x.wall(2, true);
        x.keep(0);
        x.hire(0, 0);
        x.seed(78);
        x.keep(1);
        x.learn(1, 0);
        x.wall(3, true);
        x.begin(1);
        x.hear(0, 2);
        x.write(0, 3);
        x.write(1, 2);
        return x;
    }

    /** Told of a call that is refused, and of one that only tries: it answers so, and changes nothing. */
    static void changesNothing(String call, int answer, Call c) {
        changesNothing(call, answer, c, Edge::muchDone);
    }

    static void changesNothing(String call, int answer, Call c, Supplier<BlindGuides> make) {
        BlindGuides asked = make.get();
        due(call, c.on(asked), answer);
        List<Integer> here = allThatIsSo(asked);
        List<Integer> there = allThatIsSo(make.get());
        int first = 0;
        while (first < here.size() && first < there.size() && here.get(first).equals(there.get(first))) {
            first++;
        }
        due(call + " changes nothing: look " + first, here.equals(there) ? 1 : 0, 1);
    }

    /** Everything that an object answers: now, undone, gone back to, and by the text that it has. */
    private static List<Integer> allThatIsSo(BlindGuides x) {
        List<Integer> all = new ArrayList<>();
        look(x, all);
        for (int i = 0; i < 2; i++) {
            all.add(x.undo());
            look(x, all);
        }
        for (int i = 0; i < 2; i++) {
            all.add(x.goBack(i));
            look(x, all);
        }
        all.add(x.city());
        all.add(x.told(0));
        return all;
    }

    private static void look(BlindGuides x, List<Integer> all) {
        for (int what = 0; what < 14; what++) {
            all.add(x.told(what));
        }
        for (int i = 0; i < 4; i++) {
            all.add(x.crossing(i, 4));
            for (int what = 0; what < 5 && i < 3; what++) {
                all.add(x.guide(i, what));
            }
        }
        for (int e = 0; e < 2; e++) {
            all.add(x.client(e, 2));
        }
        all.add(x.began());
        all.add(x.judge());
        int seed = x.seed(0);
        x.seed(seed);
        all.add(seed);
    }
}
