import java.nio.file.Files;
import java.nio.file.Path;
import java.util.ArrayList;
import java.util.Arrays;
import java.util.List;
import java.util.Map;
import java.util.Set;
import java.util.TreeMap;
import java.util.TreeSet;
import java.util.regex.Matcher;
import java.util.regex.Pattern;

/**
 * How a test says which sentence of the document it is of, and what must be so. What must leave all as it was is looked at
 * by Scene. At the end the words are looked for in the document, and each of its clauses that refuse among the words.
 */
abstract class Bounds {
    static final int MIN = Scene.MIN;
    static final int MAX = Scene.MAX;
    static final int NO = Scene.NO;
    static final int BAD = -1, NONE = -2, STATE = -3, FULL = -4, UNFIT = -5, WIDE = -6, NOTHING = -11, OUTSIDE = -12, SORT = -13, SIZE = -14;
    static final int[] NO_SLOT = {-1, 6, MIN, MAX};
    static final int[] NO_SHEET = {-1, 4, MIN, MAX};
    static final int[] NO_RULE = {-1, 3, MIN, MAX};

    /** A form of three letters with a BOX of 999999, so that all children have a greater one. */
    static final int[] WIDE_BOX = {23, -9, 50, 11, 37, 42};

    private static final List<String> said = new ArrayList<>();
    private static int promise = 0;
    static Scene now;

    static void promise(int number) {
        promise = number;
    }

    /** A new object, for the sentence with these words. */
    static void says(String words) {
        said.add(promise + " " + words);
        now = new Scene(promise + " " + words);
    }

    /** The sentence with these words asks for nothing. */
    static void free(String words) {
        said.add(promise + " " + words);
    }

    static void does(long want, Scene.Call call) {
        now.does(want, call);
    }

    static void leaves(long want, Scene.Call call) {
        now.leaves(want, call);
    }

    static void leavesAll(long want, Scene.CallWith call, int... numbers) {
        now.leavesAll(want, call, numbers);
    }

    static void holds(int s, int... entries) {
        now.holds(s, entries);
    }

    /** The form with these numbers on its diagonal, and 0 elsewhere. */
    static void diagonal(int s, int... squares) {
        int[] entries = new int[squares.length * (squares.length + 1) / 2];
        for (int i = 0; i < squares.length; i++) {
            entries[i * (i + 3) / 2] = squares[i];
        }
        now.form(s, entries);
    }

    /** The first vector of m is this. */
    static void first(int s, int m, int... numbers) {
        for (int j = 0; j < numbers.length; j++) {
            int place = j;
            leaves(numbers[j], x -> x.vector(s, m, place));
        }
        leaves(NO, x -> x.vector(s, m, numbers.length));
    }

    static void walksSo(int... walk) {
        for (int i = 0; i < walk.length; i++) {
            int place = i;
            leaves(walk[i], x -> x.walk(place));
        }
        leavesAll(NONE, (x, i) -> x.walk(i), -1, walk.length, MIN, MAX);
    }

    static void nodesAre(int what, int... answers) {
        for (int i = 0; i < answers.length; i++) {
            int node = i;
            leaves(answers[i], x -> x.ofNode(node, what));
        }
    }

    // ---- the document itself

    /** The words stand in the document, under their promise; and each of its clauses that refuse is among them. */
    static void wordsAreTheDocuments(int from, int to) throws Exception {
        wordsStand(from, to);
        String[] sections = sections();
        for (int number = from; number < sections.length && number <= to; number++) {
            Scene scene = new Scene("promise " + number);
            Matcher refusals = Pattern.compile("(?<=[.;] )(BAD|NONE|STATE|FULL|UNFIT|WIDE|NOTHING|OUTSIDE|SORT|SIZE|NO)\\b[^;.]*(\\.\\. ?[^;.]*)*").matcher(sections[number]);
            while (number > 0 && refusals.find()) {
                String words = refusals.group().trim();
                scene.due(said.contains(number + " " + words) ? 1 : 0, 1, "'" + words + "' has a test:");
            }
            String start = number + " ";
            scene.due(said.stream().anyMatch(one -> one.startsWith(start)) ? 1 : 0, 1, "it has a test:");
        }
    }

    static void wordsStand(int from, int to) throws Exception {
        String[] sections = sections();
        for (int number = from; number < sections.length && number <= to; number++) {
            Scene scene = new Scene("promise " + number);
            for (String one : said) {
                String words = one.substring(one.indexOf(' ') + 1);
                if (one.startsWith(number + " ")) {
                    scene.due(sections[number].contains(words) ? 1 : 0, 1, "'" + words + "' stands there:");
                }
            }
        }
    }

    /** No word of the document is left over, when all that is said in these tests is taken away. */
    static void allWordsAreSaid(int from, int to, String... tests) throws Exception {
        Map<Integer, Set<String>> all = new TreeMap<>();
        for (String test : tests) {
            gatherSaid(test, all);
        }
        String[] sections = sections();
        for (int number = from; number < sections.length && number <= to; number++) {
            String text = sections[number];
            char[] left = text.toCharArray();
            for (String words : all.getOrDefault(number, Set.of())) {
                for (int at = text.indexOf(words); at >= 0; at = text.indexOf(words, at + 1)) {
                    Arrays.fill(left, at, at + words.length(), ' ');
                }
            }
            String rest = plain(new String(left).replaceAll("[^A-Za-z ]", " "));
            // what only leads on from one sentence to the next
            rest = rest.replaceAll("\\band\\b", "").trim();
            new Scene("promise " + number).due(rest.length(), 0, "letters that no test names: '" + rest + "'");
        }
    }

    /** The words of says() and free() in a test's text, under the promise that is told ahead of their method in main. */
    private static void gatherSaid(String test, Map<Integer, Set<String>> all) throws Exception {
        String code = Files.readString(Path.of("src/test/java", test + ".java"));
        Map<String, Integer> promises = new TreeMap<>();
        int current = -1;
        Matcher calls = Pattern.compile("promise\\(([0-9]+)\\);|\\b(\\w+)\\(\\);").matcher(code.substring(0, code.indexOf("\n    }\n")));
        while (calls.find()) {
            if (calls.group(1) != null) {
                current = Integer.parseInt(calls.group(1));
            } else {
                promises.put(calls.group(2), current);
            }
        }
        Matcher parts = Pattern.compile("\n    private static \\S+ (\\w+)\\(|\\b(?:says|free)\\(((?:\"(?:[^\"\\\\]|\\\\.)*\"\\s*\\+?\\s*)+)\\)").matcher(code);
        while (parts.find()) {
            if (parts.group(1) != null) {
                current = promises.getOrDefault(parts.group(1), -1);
            } else {
                String words = parts.group(2).replaceAll("\"\\s*\\+\\s*\"", "").trim();
                all.computeIfAbsent(current, number -> new TreeSet<>()).add(words.substring(1, words.length() - 1));
            }
        }
    }

    /**
     * The sections of the document, the terms first, then the promises by their numbers. Headings are left out, and the
     * face, which is LanguageTest's.
     */
    private static String[] sections() throws Exception {
        Path path = Path.of("../shared/DOC.md");
        if (!Files.isReadable(path)) {
            System.out.println("the document is not here: its words are not looked for");
            return new String[0];
        }
        String text = Files.readString(path);
        text = text.substring(0, text.indexOf("\n## Not promised"));
        text = text.replaceAll("(?s)```java.*?```", "").replaceAll("Ahead of the calls [^\n]* the interface says: ---- [^\n]*", "");
        text = text.replaceAll("```text|```|==== [0-9]", "").replaceAll("(?m)^##? (?!Promise).*$", "");
        String[] sections = text.split("## Promise [0-9]+: [^\n]*");
        for (int number = 0; number < sections.length; number++) {
            sections[number] = plain(sections[number]);
            if (number > 0) {
                sections[number] = sections[number].replaceFirst("^`[^`]*`: ", "");
            }
        }
        return sections;
    }

    private static String plain(String text) {
        return text.replaceAll("\\s+", " ").trim();
    }
}
