import java.util.ArrayList;
import java.util.Arrays;
import java.util.List;

/**
 * A run of calls that is played again on a new object for each look, so that what a call leaves behind can be told from
 * what it doesn't: all that can be asked must answer after it as it does without it, also of what is kept.
 */
final class Scene {
    static final int MIN = Integer.MIN_VALUE;
    static final int MAX = Integer.MAX_VALUE;
    static final int BAD = -1, NONE = -2, STATE = -3, FULL = -4, UNFIT = -5, WIDE = -6, NOTHING = -11, OUTSIDE = -12, SORT = -13, SIZE = -14;
    static final int NO = MIN;
    static final long NO_ITEM = Long.MIN_VALUE;

    private static int looks = 0;
    private static int wrong = 0;

    interface Call {
        long on(EscalatedForms x);
    }

    interface CallWith {
        long on(EscalatedForms x, int number);
    }

    private final String name;
    private final List<Call> run = new ArrayList<>();
    private final EscalatedForms played = new EscalatedForms();
    /** What all that can be asked answers after the run, and after the run and back(); null: to be found anew. */
    private long[] here;
    private long[] kept;

    Scene(String name) {
        this.name = name;
    }

    static int looks() {
        return looks;
    }

    /** Prints how the test ended, and ends it with 1 if an answer was not the one that is due. */
    static void end(String what) {
        System.out.println(wrong == 0 ? looks + " looks: " + what : wrong + " of " + looks + " looks are not as due");
        if (wrong != 0) {
            System.exit(1);
        }
    }

    void due(long got, long want, String what) {
        looks++;
        if (got != want) {
            wrong++;
            System.out.println("'" + name + "', line " + lines() + ": " + what + " " + got + ", due is " + want);
        }
    }

    /** The lines of the test, from the innermost out. */
    private static String lines() {
        StringBuilder text = new StringBuilder();
        for (StackTraceElement one : new Throwable().getStackTrace()) {
            if (one.getClassName().endsWith("Test") && !one.getMethodName().equals("main")) {
                text.append(text.length() == 0 ? "" : " of ").append(one.getLineNumber());
            }
        }
        return text.toString();
    }

    /** The call answers so, and belongs to the run from now on. */
    void does(long want, Call call) {
        run.add(call);
        due(call.on(played), want, "answered");
        here = null;
        kept = null;
    }

    /** The call answers so, whether or not all has been asked ahead of it, and nothing is otherwise after it. */
    void leaves(long want, Call call) {
        if (here == null) {
            here = everything(play());
            EscalatedForms other = play();
            other.back();
            kept = everything(other);
        }
        due(call.on(played), want, "answered");
        EscalatedForms x = play();
        due(call.on(x), want, "answered on a new object");
        due(Arrays.mismatch(everything(x), here), -1, "all that can be asked is otherwise after it from answer");
        x.back();
        due(Arrays.mismatch(everything(x), kept), -1, "all that is kept is otherwise after it from answer");
    }

    void leavesAll(long want, CallWith call, int... numbers) {
        for (int number : numbers) {
            leaves(want, x -> call.on(x, number));
        }
    }

    private EscalatedForms play() {
        EscalatedForms x = new EscalatedForms();
        for (Call call : run) {
            call.on(x);
        }
        return x;
    }

    // ---- what runs are made of

    /** Numbers come to a new sheet of ints. */
    void row(int sheet, int... numbers) {
        does(1, x -> x.sheet(sheet, 1, numbers.length));
        for (int i = 0; i < numbers.length; i++) {
            int place = i;
            does(1, x -> x.cell(sheet, place, numbers[place]));
        }
    }

    /** The entries, in the order of form(), make a lawful form; sheet 3 is missing then. */
    void form(int s, int... entries) {
        int n = letters(entries);
        row(3, entries);
        does(n, x -> x.form(s, 3, 0, n));
        does(1, x -> x.sheet(3, -1, 0));
    }

    /** They make none. */
    void noForm(long want, int... entries) {
        row(3, entries);
        leaves(want, x -> x.form(5, 3, 0, letters(entries)));
    }

    private static int letters(int[] entries) {
        int n = 1;
        while (n * (n + 1) / 2 < entries.length) {
            n++;
        }
        return n;
    }

    /** The slot holds just these entries. */
    void holds(int s, int... entries) {
        int n = letters(entries);
        leaves(n, x -> x.of(s, 0));
        int place = 0;
        for (int i = 0; i < n; i++) {
            for (int j = 0; j <= i; j++) {
                due(played.at(s, i, j), entries[place], "entry " + i + " " + j + " is");
                due(played.at(s, j, i), entries[place], "entry " + j + " " + i + " is");
                place++;
            }
        }
    }

    /** The sheet has just these numbers. */
    void carries(int sheet, int... numbers) {
        for (int i = 0; i < numbers.length; i++) {
            due(played.item(sheet, i), numbers[i], "number " + i + " is");
        }
        due(played.item(sheet, numbers.length), NO_ITEM, "behind the end is");
    }

    // ---- all that can be asked

    private static final class Answers {
        private long[] row = new long[8192];
        private int size = 0;

        void add(long answer) {
            if (size == row.length) {
                row = Arrays.copyOf(row, 2 * size);
            }
            row[size] = answer;
            size++;
        }

        long[] all() {
            return Arrays.copyOf(row, size);
        }
    }

    static long[] everything(EscalatedForms x) {
        Answers answers = new Answers();
        for (int what = 0; what < 4; what++) {
            answers.add(x.count(what));
        }
        for (int s = 0; s < 6; s++) {
            askForm(x, s, answers);
            if (x.of(s, 0) > 0) {
                askNumbers(x, s, answers);
                askRules(x, s, answers);
            }
        }
        for (int node = 0; node < 30; node++) {
            answers.add(x.walk(node));
            for (int what = 0; what < 9; what++) {
                answers.add(x.ofNode(node, what));
            }
        }
        for (int sheet = 0; sheet < 4; sheet++) {
            for (int i = 0; i <= 40; i++) {
                answers.add(x.item(sheet, i));
            }
            // an empty sheet and a missing one are told apart by what is refused
            answers.add(x.cell(sheet, -1, 0));
            for (int other = 0; other < 4; other++) {
                answers.add(x.move(sheet, 0, other, 0, 0));
            }
        }
        return answers.all();
    }

    private static void askForm(EscalatedForms x, int s, Answers answers) {
        for (int what = 0; what < 4; what++) {
            answers.add(x.of(s, what));
        }
        for (int i = 0; i < 16; i++) {
            answers.add(x.at(s, i / 4, i % 4));
        }
        for (int k = 0; k <= 4; k++) {
            answers.add(x.minor(s, k));
        }
        answers.add(x.worth(s, 1, -2, 3, -4));
        for (int t = 0; t < 6; t++) {
            answers.add(x.same(s, t));
            answers.add(x.unlike(s, t));
        }
    }

    private static void askNumbers(EscalatedForms x, int s, Answers answers) {
        for (int m = 0; m <= 100; m++) {
            answers.add(x.takes(s, m));
            for (int j = 0; j < 4; j++) {
                answers.add(x.vector(s, m, j));
            }
        }
        answers.add(x.truant(s));
        for (int what = 0; what < 3; what++) {
            answers.add(x.exceptions(s, 100, what));
            answers.add(x.exceptions(s, 37, what));
        }
        for (int i = 0; i <= x.exceptions(s, 100, 0); i++) {
            answers.add(x.exception(s, i));
        }
        for (int m = 2; m <= 16; m++) {
            answers.add(x.residues(s, m));
        }
        for (int number = -8; number <= 32; number++) {
            answers.add(x.barred(s, number));
        }
    }

    private static void askRules(EscalatedForms x, int s, Answers answers) {
        for (int rule = 0; rule < 3; rule++) {
            answers.add(x.claim(s, rule));
            for (int i = 0; i < 18; i++) {
                answers.add(x.lacks(s, rule, i));
            }
        }
        answers.add(x.children(s));
        for (int what = 0; what < 4; what++) {
            answers.add(x.next(s, 0, what));
            answers.add(x.next(s, 60, what));
        }
    }
}
