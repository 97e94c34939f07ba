import java.nio.file.Files;
import java.nio.file.Path;
import java.util.ArrayList;
import java.util.List;
import java.util.regex.Matcher;
import java.util.regex.Pattern;

/**
 * How a test says which sentence of the document it is of, and what must be so. What must leave all as it was is looked at
 * by Scene. At the end the words are looked for in the document, and each of its clauses that refuse among the words.
 */
abstract class Bounds {
    static final int MIN = Scene.MIN;
    static final int MAX = Scene.MAX;
    static final int NO = Scene.NO;
    static final int BAD = -1, NONE = -2, STATE = -3, FULL = -4, UNFIT = -5, WIDE = -6, NOTHING = -11, OUTSIDE = -12, SORT = -13, SIZE = -14;
    static final int[] NO_SLOT = {-1, 6, MIN, MAX};
    static final int[] NO_SHEET = {-1, 4, MIN, MAX};
    static final int[] NO_RULE = {-1, 3, MIN, MAX};

    /** A form of three letters with a BOX of 999999, so that all children have a greater one. */
    static final int[] WIDE_BOX = {23, -9, 50, 11, 37, 42};

    private static final List<String> said = new ArrayList<>();
    private static int promise = 0;
    static Scene now;

    static void promise(int number) {
        promise = number;
    }

    /** A new object, for the sentence with these words. */
    static void says(String words) {
        said.add(promise + " " + words);
        now = new Scene(promise + " " + words);
    }

    static void does(long want, Scene.Call call) {
        now.does(want, call);
    }

    static void leaves(long want, Scene.Call call) {
        now.leaves(want, call);
    }

    static void leavesAll(long want, Scene.CallWith call, int... numbers) {
        now.leavesAll(want, call, numbers);
    }

    static void holds(int s, int... entries) {
        now.holds(s, entries);
    }

    /** The form with these numbers on its diagonal, and 0 elsewhere. */
    static void diagonal(int s, int... squares) {
        int[] entries = new int[squares.length * (squares.length + 1) / 2];
        for (int i = 0; i < squares.length; i++) {
            entries[i * (i + 3) / 2] = squares[i];
        }
        now.form(s, entries);
    }

    /** The first vector of m is this. */
    static void first(int s, int m, int... numbers) {
        for (int j = 0; j < numbers.length; j++) {
            int place = j;
            leaves(numbers[j], x -> x.vector(s, m, place));
        }
        leaves(NO, x -> x.vector(s, m, numbers.length));
    }

    static void walksSo(int... walk) {
        for (int i = 0; i < walk.length; i++) {
            int place = i;
            leaves(walk[i], x -> x.walk(place));
        }
        leavesAll(NONE, (x, i) -> x.walk(i), -1, walk.length, MIN, MAX);
    }

    static void nodesAre(int what, int... answers) {
        for (int i = 0; i < answers.length; i++) {
            int node = i;
            leaves(answers[i], x -> x.ofNode(node, what));
        }
    }

    // ---- the document itself

    /** The words stand in the document, under their promise; and each of its clauses that refuse is among them. */
    static void wordsAreTheDocuments(int from, int to) throws Exception {
        Path path = Path.of("../shared/DOC.md");
        if (!Files.isReadable(path)) {
            System.out.println("the document is not here: its words are not looked for");
            return;
        }
        String[] sections = Files.readString(path).split("## Promise (?=[0-9]+:)");
        for (int number = from; number <= to; number++) {
            String text = number < sections.length ? plain(sections[number].split("\n## Not promised")[0]) : "";
            Scene scene = new Scene("promise " + number);
            for (String one : said) {
                String words = one.substring(one.indexOf(' ') + 1);
                if (one.startsWith(number + " ")) {
                    scene.due(text.contains(words) ? 1 : 0, 1, "'" + words + "' stands there:");
                }
            }
            Matcher refusals = Pattern.compile("(?<=[.;] )(BAD|NONE|STATE|FULL|UNFIT|WIDE|NOTHING|OUTSIDE|SORT|SIZE|NO)\\b[^;.]*(\\.\\. ?[^;.]*)*").matcher(text);
            while (number > 0 && refusals.find()) {
                String words = refusals.group().trim();
                scene.due(said.contains(number + " " + words) ? 1 : 0, 1, "'" + words + "' has a test:");
            }
            String start = number + " ";
            scene.due(said.stream().anyMatch(one -> one.startsWith(start)) ? 1 : 0, 1, "it has a test:");
        }
    }

    private static String plain(String text) {
        return text.replaceAll("\\s+", " ").trim();
    }
}
