import java.util.function.LongSupplier;

/** The document's promises 1 to 44 in turn: ordinary inputs, the edges that it names, and each answer that refuses. */
public final class PromiseTest {
    private static final int MIN = Integer.MIN_VALUE;
    private static final int MAX = Integer.MAX_VALUE;
    private static final int BAD = -1, NONE = -2, STATE = -3, FULL = -4, UNFIT = -5, WIDE = -6, NOTHING = -11, OUTSIDE = -12, SORT = -13, SIZE = -14;
    private static int wrong = 0;
    private static int promise = 0;
    private static int looks = 0;
    private static EscalatedForms x;

    public static void main(String[] args) {
        forms();
        changes();
        numbers();
        rules();
        children();
        child();
        next();
        tree();
        sheets();
        kept();
        System.out.println(wrong == 0 ? looks + " answers are as promised" : wrong + " answers are not as promised");
        if (wrong != 0) {
            System.exit(1);
        }
    }

    // ---- how a test says what is due

    private static void promise(int number) {
        promise = number;
        x = new EscalatedForms();
    }

    private static void due(long got, long want) {
        looks++;
        if (got != want) {
            wrong++;
            StackTraceElement[] trace = new Throwable().getStackTrace();
            int up = 1;
            while (trace[up].getMethodName().equals("asked")) {
                up++;
            }
            System.out.println("promise " + promise + ", line " + trace[up].getLineNumber() + ": answered " + got + ", due is " + want);
        }
    }

    /** What is only asked, and what is refused, changes nothing. */
    private static void asked(long want, LongSupplier call) {
        String before = state();
        due(call.getAsLong(), want);
        due(state().equals(before) ? 1 : 0, 1);
    }

    private static String state() {
        StringBuilder text = new StringBuilder();
        for (int s = 0; s < 6; s++) {
            for (int i = 0; i < 16; i++) {
                text.append(x.at(s, i / 4, i % 4)).append(' ');
            }
        }
        for (int node = 0; node < x.count(1); node++) {
            text.append(x.walk(node)).append(' ');
            for (int what = 0; what < 9; what++) {
                if (what != 6) {
                    text.append(x.ofNode(node, what)).append(' ');
                }
            }
        }
        for (int i = 0; i < 160; i++) {
            text.append(x.item(i / 40, i % 40)).append(' ');
        }
        return text.append(x.count(2)).append(' ').append(x.count(3)).toString();
    }

    /** Numbers come to a new sheet of ints. */
    private static void write(int sheet, int... numbers) {
        x.sheet(sheet, 1, numbers.length);
        for (int i = 0; i < numbers.length; i++) {
            x.cell(sheet, i, numbers[i]);
        }
    }

    private static int make(int s, int... entries) {
        write(3, entries);
        int n = entries.length == 1 ? 1 : entries.length == 3 ? 2 : entries.length == 6 ? 3 : 4;
        int answer = x.form(s, 3, 0, n);
        x.sheet(3, -1, 0);
        return answer;
    }

    private static void holds(int s, int... entries) {
        int place = 0;
        for (int i = 0; place < entries.length; i++) {
            for (int j = 0; j <= i; j++) {
                due(x.at(s, i, j), entries[place]);
                due(x.at(s, j, i), entries[place]);
                place++;
            }
        }
        due(x.of(s, 0) * (x.of(s, 0) + 1) / 2, entries.length);
    }

    private static void carries(int sheet, int from, int... numbers) {
        for (int i = 0; i < numbers.length; i++) {
            due(x.item(sheet, from + i), numbers[i]);
        }
    }

    // ---- the promises

    private static void forms() {
        promise(1);
        for (int s = 0; s < 6; s++) {
            int slot = s;
            asked(0, () -> x.of(slot, 0));
            asked(NONE, () -> x.of(slot, 1));
        }
        for (int what = 0; what < 4; what++) {
            due(x.count(what), 0);
        }
        due(x.walk(0), NONE);
        due(x.back(), NONE);

        promise(2);
        due(x.single(0, 1), 1);
        due(x.single(5, 99), 99);
        holds(0, 1);
        holds(5, 99);
        due(x.single(0, 7), 7);
        holds(0, 7);
        for (int bad : new int[] {0, -1, 100, MIN, MAX}) {
            asked(BAD, () -> x.single(0, bad));
        }
        for (int bad : new int[] {-1, 6, MIN, MAX}) {
            asked(BAD, () -> x.single(bad, 1));
        }

        promise(3);
        write(0, 9, 2, 1, 3, -1, 0, 4, 1, 0, 1, 5);
        due(x.form(1, 0, 1, 4), 4);
        holds(1, 2, 1, 3, -1, 0, 4, 1, 0, 1, 5);
        due(x.form(1, 0, 1, 2), 2);
        holds(1, 2, 1, 3);
        due(x.form(2, 0, 10, 1), 1);
        holds(2, 5);
        for (int bad : new int[] {-1, 6, MIN, MAX}) {
            asked(BAD, () -> x.form(bad, 0, 1, 1));
            asked(BAD, () -> x.form(0, bad < 0 ? bad : bad - 2, 1, 1));
        }
        for (int bad : new int[] {0, -1, 5, MIN, MAX}) {
            asked(BAD, () -> x.form(0, 0, 0, bad));
            asked(BAD, () -> x.form(0, 1, 0, bad));
        }
        asked(NOTHING, () -> x.form(0, 1, -1, 1));
        for (int bad : new int[] {-1, 2, 11, MIN, MAX}) {
            asked(OUTSIDE, () -> x.form(0, 0, bad, 4));
        }
        write(0, 100, 1, -100, 0, 2, 2, 2);
        asked(OUTSIDE, () -> x.form(0, 0, 5, 2));
        asked(BAD, () -> x.form(0, 0, 0, 1));
        asked(BAD, () -> x.form(0, 0, 0, 2));
        asked(UNFIT, () -> x.form(0, 0, 3, 1));
        asked(UNFIT, () -> x.form(0, 0, 4, 2));
        // 2 x 2 determinants above 0 are not enough, and entries out of bounds come ahead of what is unfit
        write(0, -1, 0, -1, 2, -1, 2, -1, -1, 2);
        asked(UNFIT, () -> x.form(0, 0, 0, 2));
        asked(UNFIT, () -> x.form(0, 0, 3, 3));
        write(0, -1, 100, -1);
        asked(BAD, () -> x.form(0, 0, 0, 2));
        write(0, 99, -99, 99, 99, 99, 99, -98, 99);
        asked(UNFIT, () -> x.form(0, 0, 0, 2));
        asked(UNFIT, () -> x.form(0, 0, 3, 2));
        due(x.form(0, 0, 5, 2), 2);
        // a BOX of 1000000 at most: here it is 999999, and there 1000065
        due(make(0, 30, 18, 75, -18, -54, 41, 9, 27, -20, 10), 4);
        due(x.of(0, 2), 999999);
        asked(UNFIT, () -> make(0, 6, -5, 57, 1, -13, 3, -3, 0, 0, 3));
        x.sheet(0, 0, 3);
        x.cell(0, 0, 99);
        x.cell(0, 1, -99);
        x.cell(0, 2, 100);
        due(x.form(0, 0, 0, 1), 1);
        asked(BAD, () -> x.form(0, 0, 0, 2));

        promise(4);
        make(1, 2, 1, 3, -1, 0, 4, 1, 0, 1, 5);
        x.sheet(0, 0, 12);
        x.cell(0, 0, 77);
        x.cell(0, 11, 78);
        due(x.spread(1, 0, 1), 10);
        carries(0, 0, 77, 2, 1, 3, -1, 0, 4, 1, 0, 1, 5, 78);
        x.single(0, 9);
        due(x.spread(0, 0, 11), 1);
        carries(0, 10, 5, 9);
        make(2, 2, -1, 3);
        due(x.spread(2, 0, 0), 3);
        carries(0, 0, 2, -1, 3, 3);
        for (int bad : new int[] {-1, 6, 5, MIN, MAX}) {
            asked(BAD, () -> x.spread(bad, 0, 0));
        }
        for (int bad : new int[] {-1, 4, MIN, MAX}) {
            asked(BAD, () -> x.spread(1, bad, 0));
        }
        asked(NOTHING, () -> x.spread(1, 1, -1));
        for (int bad : new int[] {-1, 3, MIN, MAX}) {
            asked(OUTSIDE, () -> x.spread(1, 0, bad));
        }
        asked(OUTSIDE, () -> x.spread(0, 0, 12));

        promise(5);
        make(4, 2, 1, 2);
        due(x.clear(4), 2);
        asked(0, () -> x.of(4, 0));
        due(x.clear(4), 0);
        for (int bad : new int[] {-1, 6, MIN, MAX}) {
            asked(BAD, () -> x.clear(bad));
        }

        promise(6);
        make(0, 2, 0, 3, 0, 0, 4);
        due(x.entry(0, 2, 0, -1), 21);
        holds(0, 2, 0, 3, -1, 0, 4);
        due(x.entry(0, 1, 1, 99), 99 * 7);
        due(x.entry(0, 0, 1, 3), 99 * 7 - 36);
        holds(0, 2, 3, 99, -1, 0, 4);
        for (int bad : new int[] {-1, 3, MIN, MAX}) {
            asked(BAD, () -> x.entry(0, bad, 0, 1));
            asked(BAD, () -> x.entry(0, 0, bad, 1));
        }
        for (int bad : new int[] {-100, 100, MIN, MAX}) {
            asked(BAD, () -> x.entry(0, 0, 1, bad));
        }
        asked(BAD, () -> x.entry(1, 0, 0, 1));
        asked(BAD, () -> x.entry(6, 0, 0, 1));
        asked(BAD, () -> x.entry(-1, 0, 0, 1));
        asked(UNFIT, () -> x.entry(0, 0, 0, 0));
        asked(UNFIT, () -> x.entry(0, 1, 1, -99));
        asked(UNFIT, () -> x.entry(0, 0, 1, 99));

        promise(7);
        make(0, 2, -1, 3);
        asked(-1, () -> x.at(0, 0, 1));
        asked(-1, () -> x.at(0, 1, 0));
        asked(3, () -> x.at(0, 1, 1));
        for (int bad : new int[] {-1, 2, MIN, MAX}) {
            asked(MIN, () -> x.at(0, bad, 0));
            asked(MIN, () -> x.at(0, 0, bad));
        }
        for (int bad : new int[] {-1, 1, 6, MIN, MAX}) {
            asked(MIN, () -> x.at(bad, 0, 0));
        }

        promise(8);
        make(0, 2, 1, 3, -1, 0, 4, 1, 0, 1, 5);
        int[] minors = {1, 2, 5, 17, 62};
        for (int k = 0; k < 5; k++) {
            int place = k;
            asked(minors[k], () -> x.minor(0, place));
        }
        for (int bad : new int[] {-1, 5, MIN, MAX}) {
            asked(BAD, () -> x.minor(0, bad));
        }
        x.single(1, 3);
        asked(BAD, () -> x.minor(1, 2));
        asked(BAD, () -> x.minor(2, 0));
        asked(BAD, () -> x.minor(-1, 0));
        asked(BAD, () -> x.minor(6, 0));
        make(0, 99, 0, 99, 0, 0, 99, 0, 0, 0, 99);
        asked(96059601, () -> x.minor(0, 4));

        promise(9);
        make(0, 99, 9, 1);
        asked(2, () -> x.of(0, 0));
        asked(18, () -> x.of(0, 1));
        asked(235, () -> x.of(0, 2));
        asked(99, () -> x.of(0, 3));
        make(1, 1, 0, 1, 0, 0, 1);
        asked(9261, () -> x.of(1, 2));
        asked(1, () -> x.of(1, 3));
        x.single(2, 99);
        asked(3, () -> x.of(2, 2));
        x.single(2, 25);
        asked(5, () -> x.of(2, 2));
        asked(0, () -> x.of(5, 0));
        for (int what = 1; what < 4; what++) {
            int which = what;
            asked(NONE, () -> x.of(5, which));
        }
        for (int bad : new int[] {-1, 4, MIN, MAX}) {
            asked(BAD, () -> x.of(0, bad));
            asked(BAD, () -> x.of(5, bad));
            asked(BAD, () -> x.of(bad < 0 ? bad : 6, 0));
        }

        promise(10);
        make(0, 2, 1, 3, -1, 0, 4, 1, 0, 1, 5);
        asked(2 + 3 + 4 + 5 + 2 * (1 - 1 + 1 + 1), () -> x.worth(0, 1, 1, 1, 1));
        asked(2 + 12 + 36 + 80 + 2 * (2 - 3 + 4 + 12), () -> x.worth(0, 1, 2, 3, 4));
        asked(2 + 12 - 4, () -> x.worth(0, 1, -2, 0, 0));
        asked(0, () -> x.worth(0, 0, 0, 0, 0));
        x.single(1, 1);
        asked(1L << 62, () -> x.worth(1, MIN, MAX, MAX, MAX));
        asked((long) MAX * MAX, () -> x.worth(1, MAX, MIN, MIN, MIN));
        x.single(1, 2);
        asked(WIDE, () -> x.worth(1, MIN, 0, 0, 0));
        asked(2L * MAX * MAX, () -> x.worth(1, MAX, 0, 0, 0));
        x.single(1, 99);
        asked(WIDE, () -> x.worth(1, MAX, 0, 0, 0));
        make(2, 1, -1, 2);
        // the worth is small, but its parts are not
        asked(WIDE, () -> x.worth(2, MAX, MAX, 0, 0));
        asked((1L << 60) * 1, () -> x.worth(2, 1 << 30, 1 << 30, 0, 0));
        make(2, 1, 0, 1);
        asked(WIDE, () -> x.worth(2, MIN, MIN, 0, 0));
        asked((1L << 62) + (long) MAX * MAX, () -> x.worth(2, MIN, MAX, 0, 0));
        asked(BAD, () -> x.worth(3, 1, 1, 1, 1));
        asked(BAD, () -> x.worth(-1, 1, 1, 1, 1));
        asked(BAD, () -> x.worth(6, MAX, 1, 1, 1));
    }

    private static void changes() {
        promise(11);
        make(0, 2, 1, 3, 0, 1, 5);
        due(x.change(0, 0, 1, 2), 23);
        holds(0, 2 + 4 + 12, 1 + 6, 3, 2, 1, 5);
        due(x.change(0, 2, 1, -1), 23);
        holds(0, 18, 7, 3, -5, -2, 6);
        due(x.change(0, 1, 0, 0), 23);
        holds(0, 18, 7, 3, -5, -2, 6);
        x.single(1, 1);
        x.join(1, 1, 1);
        due(x.change(1, 0, 1, -9), 1);
        holds(1, 82, -9, 1);
        due(x.change(1, 0, 1, 9), 1);
        holds(1, 1, 0, 1);
        for (int bad : new int[] {-1, 3, MIN, MAX}) {
            asked(BAD, () -> x.change(0, bad, 0, 1));
            asked(BAD, () -> x.change(0, 0, bad, 1));
        }
        for (int bad : new int[] {-10, 10, MIN, MAX}) {
            asked(BAD, () -> x.change(0, 0, 1, bad));
        }
        asked(BAD, () -> x.change(0, 1, 1, 1));
        asked(BAD, () -> x.change(2, 0, 1, 1));
        asked(BAD, () -> x.change(-1, 0, 1, 1));
        asked(BAD, () -> x.change(6, 0, 1, 1));
        asked(UNFIT, () -> x.change(0, 1, 0, 3));
        make(2, 26, 5, 1, 0, 0, 1, 0, 0, 0, 1);
        // entries are still small, the BOX is not
        asked(UNFIT, () -> x.change(2, 0, 1, 1));
        due(x.change(2, 0, 1, -1), 1);

        promise(12);
        make(0, 2, 1, 3, -1, 0, 4, 1, 0, 1, 5);
        due(x.swap(0, 0, 3), 4);
        holds(0, 5, 0, 3, 1, 0, 4, 1, 1, -1, 2);
        due(x.swap(0, 3, 0), 4);
        holds(0, 2, 1, 3, -1, 0, 4, 1, 0, 1, 5);
        due(x.swap(0, 1, 2), 4);
        holds(0, 2, -1, 4, 1, 0, 3, 1, 1, 0, 5);
        asked(4, () -> x.swap(0, 2, 2));
        for (int bad : new int[] {-1, 4, MIN, MAX}) {
            asked(BAD, () -> x.swap(0, bad, 0));
            asked(BAD, () -> x.swap(0, 0, bad));
            asked(BAD, () -> x.swap(bad < 0 ? bad : 6, 0, 0));
        }
        asked(BAD, () -> x.swap(1, 0, 0));

        promise(13);
        make(0, 2, -1, 3);
        due(x.scale(0, 1), 5);
        due(x.scale(0, 3), 45);
        holds(0, 6, -3, 9);
        due(x.scale(0, 11), 45 * 121);
        holds(0, 66, -33, 99);
        asked(UNFIT, () -> x.scale(0, 2));
        asked(UNFIT, () -> x.scale(0, 99));
        x.single(1, 1);
        due(x.scale(1, 99), 99);
        for (int bad : new int[] {0, -1, 100, MIN, MAX}) {
            asked(BAD, () -> x.scale(0, bad));
        }
        asked(BAD, () -> x.scale(2, 1));
        asked(BAD, () -> x.scale(-1, 1));
        asked(BAD, () -> x.scale(6, 1));

        promise(14);
        make(0, 2, 1, 3);
        x.single(1, 7);
        due(x.join(0, 1, 2), 3);
        holds(2, 2, 1, 3, 0, 0, 7);
        due(x.join(1, 0, 0), 3);
        holds(0, 7, 0, 2, 0, 1, 3);
        due(x.join(1, 2, 1), 4);
        holds(1, 7, 0, 2, 0, 1, 3, 0, 0, 0, 7);
        holds(2, 2, 1, 3, 0, 0, 7);
        asked(FULL, () -> x.join(1, 0, 3));
        asked(FULL, () -> x.join(2, 0, 3));
        for (int bad : new int[] {-1, 6, 5, MIN, MAX}) {
            asked(BAD, () -> x.join(bad, 0, 3));
            asked(BAD, () -> x.join(0, bad, 3));
        }
        for (int bad : new int[] {-1, 6, MIN, MAX}) {
            asked(BAD, () -> x.join(1, 1, bad));
        }
        make(4, 50, 7, 1);
        asked(UNFIT, () -> x.join(4, 4, 5));
        asked(UNFIT, () -> x.join(4, 4, 4));

        promise(15);
        make(0, 2, 1, 2);
        asked(0, () -> x.reduce(0));
        // 3 / 2 goes to 1, -3 / 2 to -1: of two as near the one nearer to 0
        make(0, 20, 3, 2);
        due(x.reduce(0), 1);
        holds(0, 16, 1, 2);
        make(0, 20, -3, 2);
        due(x.reduce(0), 1);
        holds(0, 16, -1, 2);
        make(0, 2, 3, 20);
        due(x.reduce(0), 1);
        holds(0, 2, 1, 16);
        // by i first, then by j: letter 0 by letter 2, then letter 1 by letter 2
        make(0, 9, 0, 9, 2, 2, 3);
        due(x.reduce(0), 2);
        holds(0, 8, -1, 8, -1, -1, 3);
        // on the way the BOX is above 1000000, at the end it is not
        make(0, 9, 22, 54, 2, 5, 1);
        due(x.reduce(0), 4);
        holds(0, 1, 0, 1, 0, 0, 1);
        // here it is above at the end
        due(make(1, 2, 0, 5, 0, -3, 5, -1, 4, -2, 4), 4);
        asked(UNFIT, () -> x.reduce(1));
        for (int bad : new int[] {-1, 6, 5, MIN, MAX}) {
            asked(BAD, () -> x.reduce(bad));
        }

        promise(16);
        make(0, 2, 1, 2);
        make(1, 2, 1, 2);
        make(2, 2, -1, 2);
        make(3, 2, 1, 2, 0, 0, 2);
        make(4, 2, 1, 3);
        asked(0, () -> x.same(0, 4));
        make(4, 3, 1, 2);
        asked(0, () -> x.same(0, 4));
        make(4, 2, 1, 2, 0, 0, 3);
        asked(0, () -> x.same(3, 4));
        make(4, 2, 1, 2, 0, 1, 2);
        asked(0, () -> x.same(3, 4));
        asked(1, () -> x.same(0, 0));
        asked(1, () -> x.same(0, 1));
        asked(0, () -> x.same(0, 2));
        asked(0, () -> x.same(0, 3));
        asked(0, () -> x.same(3, 0));
        for (int bad : new int[] {-1, 6, 5, MIN, MAX}) {
            asked(BAD, () -> x.same(bad, 0));
            asked(BAD, () -> x.same(0, bad));
        }

        promise(17);
        make(0, 2, 1, 2);
        make(1, 2, -1, 2);
        make(2, 2, 0, 2);
        asked(NONE, () -> x.unlike(0, 1));
        asked(NONE, () -> x.unlike(0, 0));
        // x x + x y + y y, twice over, takes 2 by 6 vectors, the other by 4
        asked(2, () -> x.unlike(0, 2));
        x.single(3, 99);
        x.single(4, 98);
        asked(98, () -> x.unlike(3, 4));
        make(3, 50, 0, 50);
        make(4, 50, 0, 99);
        asked(50, () -> x.unlike(3, 4));
        make(3, 99, 0, 50);
        make(4, 98, 0, 50);
        asked(98, () -> x.unlike(3, 4));
        make(3, 51, 0, 99);
        make(4, 51, 1, 99);
        asked(NONE, () -> x.unlike(3, 4));
        make(3, 51, 0, 98);
        asked(98, () -> x.unlike(3, 4));
        // only the second takes 100, by 1 and -1
        make(4, 51, 5, 59);
        make(3, 51, 0, 59);
        asked(100, () -> x.unlike(3, 4));
        for (int bad : new int[] {-1, 6, 5, MIN, MAX}) {
            asked(BAD, () -> x.unlike(bad, 0));
            asked(BAD, () -> x.unlike(0, bad));
        }
    }

    private static void numbers() {
        promise(18);
        make(0, 1, 0, 1, 0, 0, 1, 0, 0, 0, 1);
        asked(1, () -> x.takes(0, 0));
        asked(8, () -> x.takes(0, 1));
        asked(24, () -> x.takes(0, 2));
        asked(744, () -> x.takes(0, 100));
        // skewed letters take the same
        make(1, 9, 22, 54, 2, 5, 1);
        make(2, 1, 0, 1, 0, 0, 1);
        for (int m = 0; m <= 100; m++) {
            int number = m;
            asked(x.takes(2, m), () -> x.takes(1, number));
        }
        asked(0, () -> x.takes(2, 7));
        x.single(3, 25);
        asked(2, () -> x.takes(3, 100));
        asked(0, () -> x.takes(3, 99));
        for (int bad : new int[] {-1, 101, MIN, MAX}) {
            asked(BAD, () -> x.takes(0, bad));
        }
        for (int bad : new int[] {-1, 6, 5, MIN, MAX}) {
            asked(BAD, () -> x.takes(bad, 0));
        }

        promise(19);
        make(0, 1, 0, 1, 0, 0, 1, 0, 0, 0, 1);
        vectorIs(0, 0, 0, 0, 0, 0);
        vectorIs(0, 7, 2, 1, 1, 1);
        vectorIs(0, 100, 10, 0, 0, 0);
        vectorIs(0, 99, 9, 4, 1, 1);
        make(1, 99, 9, 1);
        vectorIs(1, 1, 0, 1);
        vectorIs(1, 99, 1, 0);
        vectorIs(1, 73, 2, -17);
        make(2, 2, 1, 3);
        vectorIs(2, 3, 1, -1);
        asked(MIN, () -> x.vector(2, 1, 0));
        for (int bad : new int[] {-1, 2, MIN, MAX}) {
            asked(MIN, () -> x.vector(2, 2, bad));
        }
        for (int bad : new int[] {-1, 101, MIN, MAX}) {
            asked(MIN, () -> x.vector(0, bad, 0));
        }
        for (int bad : new int[] {-1, 6, 5, MIN, MAX}) {
            asked(MIN, () -> x.vector(bad, 0, 0));
        }

        promise(20);
        x.single(0, 1);
        asked(2, () -> x.truant(0));
        x.single(0, 2);
        asked(1, () -> x.truant(0));
        make(0, 1, 0, 1);
        asked(3, () -> x.truant(0));
        make(0, 1, 0, 1, 0, 0, 1);
        asked(7, () -> x.truant(0));
        make(0, 1, 0, 2, 0, 0, 5, 0, 0, 0, 5);
        asked(15, () -> x.truant(0));
        make(0, 1, 0, 1, 0, 0, 1, 0, 0, 0, 1);
        asked(NONE, () -> x.truant(0));
        for (int bad : new int[] {-1, 6, 5, MIN, MAX}) {
            asked(BAD, () -> x.truant(bad));
        }

        promise(21);
        make(0, 1, 0, 1, 0, 0, 1);
        // not a sum of three squares: 7, 15, 23, 28, 31, ..; 28, 60, 92 are barred only by 32, all the others by 8
        asked(15, () -> x.exceptions(0, 100, 0));
        asked(12, () -> x.exceptions(0, 100, 1));
        asked(95, () -> x.exceptions(0, 100, 2));
        asked(4, () -> x.exceptions(0, 30, 0));
        asked(28, () -> x.exceptions(0, 28, 2));
        asked(23, () -> x.exceptions(0, 27, 2));
        asked(0, () -> x.exceptions(0, 6, 0));
        asked(0, () -> x.exceptions(0, 6, 1));
        asked(0, () -> x.exceptions(0, 6, 2));
        asked(1, () -> x.exceptions(0, 7, 1));
        make(1, 1, 0, 2, 0, 0, 5, 0, 0, 0, 5);
        asked(1, () -> x.exceptions(1, 100, 0));
        asked(0, () -> x.exceptions(1, 100, 1));
        asked(15, () -> x.exceptions(1, 100, 2));
        make(1, 1, 0, 1, 0, 0, 1, 0, 0, 0, 1);
        asked(0, () -> x.exceptions(1, 100, 0));
        asked(0, () -> x.exceptions(1, 100, 2));
        asked(0, () -> x.exceptions(1, 1, 0));
        x.single(1, 2);
        asked(1, () -> x.exceptions(1, 1, 0));
        asked(1, () -> x.exceptions(1, 1, 1));
        asked(1, () -> x.exceptions(1, 2, 2));
        for (int bad : new int[] {-1, 0, 101, MIN, MAX}) {
            asked(BAD, () -> x.exceptions(0, bad, 0));
        }
        for (int bad : new int[] {-1, 3, MIN, MAX}) {
            asked(BAD, () -> x.exceptions(0, 5, bad));
        }
        for (int bad : new int[] {-1, 6, 5, MIN, MAX}) {
            asked(BAD, () -> x.exceptions(bad, 5, 0));
        }

        promise(22);
        make(0, 1, 0, 1, 0, 0, 1);
        int[] lacking = {7, 15, 23, 28, 31, 39, 47, 55, 60, 63, 71, 79, 87, 92, 95};
        for (int i = 0; i < lacking.length; i++) {
            int place = i;
            asked(lacking[i], () -> x.exception(0, place));
        }
        for (int none : new int[] {-1, 15, MIN, MAX}) {
            asked(NONE, () -> x.exception(0, none));
        }
        x.single(1, 99);
        asked(100, () -> x.exception(1, 98));
        make(2, 1, 0, 1, 0, 0, 1, 0, 0, 0, 1);
        asked(NONE, () -> x.exception(2, 0));
        for (int bad : new int[] {-1, 6, 5, MIN, MAX}) {
            asked(BAD, () -> x.exception(bad, 0));
        }

        promise(23);
        x.single(0, 1);
        asked(0b11, () -> x.residues(0, 2));
        asked(0b11, () -> x.residues(0, 3));
        asked(0b11, () -> x.residues(0, 4));
        asked(0b10011, () -> x.residues(0, 5));
        asked(0b0000001000010011, () -> x.residues(0, 16));
        make(0, 1, 0, 1, 0, 0, 1);
        asked(0b01111111, () -> x.residues(0, 8));
        asked(0b0111111101111111, () -> x.residues(0, 16));
        make(0, 16, 0, 16);
        for (int m : new int[] {2, 4, 8, 16}) {
            asked(1, () -> x.residues(0, m));
        }
        make(0, 2, 1, 2, 0, 0, 2, 0, 0, 0, 2);
        asked(0b0101010101010101, () -> x.residues(0, 16));
        make(0, 3, -3, 6);
        asked(0b001, () -> x.residues(0, 3));
        make(1, 3, 1, 5);
        make(2, 8, -3, 8, 1, 2, 12);
        make(3, 8, 4, 10, -2, 4, 24, 2, 0, -2, 6);
        for (int s = 1; s < 4; s++) {
            for (int m = 2; m <= 16; m++) {
                int slot = s;
                int modulus = m;
                asked(residuesByHand(s, m), () -> x.residues(slot, modulus));
            }
        }
        for (int bad : new int[] {-1, 0, 1, 17, MIN, MAX}) {
            asked(BAD, () -> x.residues(0, bad));
        }
        for (int bad : new int[] {-1, 6, 5, MIN, MAX}) {
            asked(BAD, () -> x.residues(bad, 2));
        }

        promise(24);
        x.single(0, 1);
        asked(3, () -> x.barred(0, 2));
        asked(4, () -> x.barred(0, 3));
        asked(5, () -> x.barred(0, 52));
        asked(NONE, () -> x.barred(0, 0));
        asked(NONE, () -> x.barred(0, 1));
        asked(NONE, () -> x.barred(0, 1681));
        asked(16, () -> x.barred(0, 364));
        asked(3, () -> x.barred(0, -1));
        asked(4, () -> x.barred(0, -2));
        asked(3, () -> x.barred(0, MIN + 1));
        asked(4, () -> x.barred(0, MIN + 3));
        asked(5, () -> x.barred(0, MIN));
        asked(4, () -> x.barred(0, MAX));
        make(1, 1, 0, 1, 0, 0, 1);
        asked(8, () -> x.barred(1, 7));
        asked(NONE, () -> x.barred(1, 28));
        asked(8, () -> x.barred(1, -1));
        asked(8, () -> x.barred(1, MAX));
        asked(NONE, () -> x.barred(1, MIN));
        asked(NONE, () -> x.barred(1, 112));
        for (int bad : new int[] {-1, 6, 5, MIN, MAX}) {
            asked(BAD, () -> x.barred(bad, 1));
        }
    }

    private static int residuesByHand(int s, int m) {
        int n = x.of(s, 0);
        int ways = (int) Math.pow(m, n);
        int bits = 0;
        for (int way = 0; way < ways; way++) {
            bits |= 1 << x.worth(s, way % m, way / m % m, way / m / m % m, way / m / m / m) % m;
        }
        return bits;
    }

    private static void vectorIs(int s, int m, int... numbers) {
        for (int j = 0; j < numbers.length; j++) {
            int place = j;
            asked(numbers[j], () -> x.vector(s, m, place));
        }
    }

    private static void rules() {
        promise(25);
        int[][] rules = {
            {1, 2, 3, 5, 6, 7, 10, 14, 15},
            {1, 3, 5, 7, 11, 15, 33},
            {2, 3, 5, 7, 11, 13, 17, 19, 23, 29, 31, 37, 41, 43, 47, 67, 73}};
        for (int rule = 0; rule < 3; rule++) {
            int which = rule;
            for (int i = 0; i < rules[rule].length; i++) {
                int place = i;
                asked(rules[rule][i], () -> x.rule(which, place));
            }
            for (int none : new int[] {-1, rules[rule].length, MIN, MAX}) {
                asked(NONE, () -> x.rule(which, none));
            }
        }
        for (int bad : new int[] {-1, 3, MIN, MAX}) {
            asked(BAD, () -> x.rule(bad, 0));
            asked(BAD, () -> x.rule(bad, -1));
        }

        promise(26);
        make(0, 1, 0, 1, 0, 0, 1, 0, 0, 0, 1);
        make(1, 1, 0, 2, 0, 0, 5, 0, 0, 0, 5);
        make(2, 1, 0, 1, 0, 0, 2);
        make(3, 1, 0, 1, 0, 0, 1);
        int[][] holds = {{1, 1, 1}, {0, 0, 1}, {0, 1, 1}, {0, 0, 0}};
        for (int i = 0; i < 12; i++) {
            int s = i / 3;
            int rule = i % 3;
            asked(holds[s][rule], () -> x.claim(s, rule));
        }
        for (int bad : new int[] {-1, 3, MIN, MAX}) {
            asked(BAD, () -> x.claim(0, bad));
        }
        for (int bad : new int[] {-1, 6, 5, MIN, MAX}) {
            asked(BAD, () -> x.claim(bad, 0));
        }

        promise(27);
        make(0, 1, 0, 1, 0, 0, 1);
        asked(7, () -> x.lacks(0, 0, 0));
        asked(15, () -> x.lacks(0, 0, 1));
        asked(NONE, () -> x.lacks(0, 0, 2));
        asked(NONE, () -> x.lacks(0, 0, -1));
        x.single(1, 2);
        asked(1, () -> x.lacks(1, 0, 0));
        asked(3, () -> x.lacks(1, 0, 1));
        asked(7, () -> x.lacks(0, 1, 0));
        asked(15, () -> x.lacks(0, 1, 1));
        asked(NONE, () -> x.lacks(0, 1, 2));
        asked(47, () -> x.lacks(0, 2, 3));
        asked(NONE, () -> x.lacks(0, 2, 4));
        asked(NONE, () -> x.lacks(0, 2, MAX));
        asked(NONE, () -> x.lacks(0, 2, MIN));
        make(1, 1, 0, 1, 0, 0, 1, 0, 0, 0, 1);
        asked(NONE, () -> x.lacks(1, 2, 0));
        for (int bad : new int[] {-1, 3, MIN, MAX}) {
            asked(BAD, () -> x.lacks(0, bad, 0));
        }
        for (int bad : new int[] {-1, 6, 5, MIN, MAX}) {
            asked(BAD, () -> x.lacks(bad, 0, 0));
        }

        promise(28);
        make(0, 1, 0, 1, 0, 0, 2);
        x.sheet(0, 1, 40);
        x.cell(0, 2, 77);
        x.cell(0, 31, 78);
        due(x.certify(0, 1, 0, 3), 7);
        carries(0, 0, 0, 0, 77, 1, 1, 0, 0, 3, 1, 0, 1, 5, 2, 1, 0, 7, 2, 1, 1, 11, 3, 0, 1, 15, 3, 2, 1, 33, 5, 0, 2, 78);
        x.sheet(0, 1, 9);
        x.cell(0, 8, 79);
        due(x.certify(0, 1, 0, 1), 2);
        carries(0, 0, 0, 1, 1, 0, 0, 3, 1, 0, 1);
        x.sheet(0, 1, 9);
        x.cell(0, 8, 79);
        due(x.certify(0, 1, 0, 2), 1);
        carries(0, 0, 0, 0, 1, 1, 0, 0, 0, 0, 79);
        asked(0, () -> x.certify(0, 1, 0, 9));
        asked(0, () -> x.certify(0, 1, 0, 6));
        for (int bad : new int[] {-1, 3, MIN, MAX}) {
            asked(BAD, () -> x.certify(0, bad, 0, 0));
        }
        for (int bad : new int[] {-1, 4, MIN, MAX}) {
            asked(BAD, () -> x.certify(0, 0, bad, 0));
        }
        for (int bad : new int[] {-1, 6, 5, MIN, MAX}) {
            asked(BAD, () -> x.certify(bad, 1, 0, 0));
        }
        asked(STATE, () -> x.certify(0, 0, 0, -1));
        asked(STATE, () -> x.certify(0, 0, 1, 0));
        asked(NOTHING, () -> x.certify(0, 1, 1, -1));
        for (int bad : new int[] {-1, 10, MIN, MAX}) {
            asked(OUTSIDE, () -> x.certify(0, 1, 0, bad));
        }
        x.sheet(1, 0, 0);
        asked(0, () -> x.certify(0, 1, 1, 0));
        // numbers of a vector that pass a byte are cut to its lowest 8 bits
        due(make(2, 27, 5, 82, 0, 9, 1), 3);
        x.sheet(2, 1, 40);
        x.sheet(3, 0, 40);
        due(x.certify(2, 1, 2, 0), 7);
        due(x.certify(2, 1, 3, 0), 7);
        carries(2, 24, 33, 4, -19, 171);
        carries(3, 24, 33, 4, -19, 171 - 256);
    }

    private static void children() {
        promise(29);
        x.single(0, 1);
        asked(3, () -> x.children(0));
        make(0, 1, 0, 1);
        asked(9, () -> x.children(0));
        make(0, 1, 0, 2);
        asked(23, () -> x.children(0));
        make(0, 1, 0, 2, 0, 0, 5);
        asked(childrenByHand(0), () -> x.children(0));
        // of 425 rows that keep it positive 32 make the BOX too large
        asked(393, () -> x.children(0));
        due(make(3, 30, 18, 75, -18, -54, 41), 3);
        asked(childrenByHand(3), () -> x.children(3));
        x.single(1, 99);
        // r r below 99, from 9 down to -9
        asked(19, () -> x.children(1));
        make(2, 1, 0, 1, 0, 0, 1, 0, 0, 0, 1);
        asked(STATE, () -> x.children(2));
        make(2, 2, 0, 2, 0, 0, 2, 0, 0, 0, 2);
        asked(FULL, () -> x.children(2));
        for (int bad : new int[] {-1, 6, 5, MIN, MAX}) {
            asked(BAD, () -> x.children(bad));
        }
    }

    private static void child() {
        promise(30);
        x.single(0, 99);
        for (int k = 0; k < 19; k++) {
            due(x.child(0, k, 1), 99 - (9 - k) * (9 - k));
            holds(1, 99, 9 - k, 1);
        }
        make(0, 1, 0, 1);
        int[][] rows = {{1, 1}, {1, 0}, {1, -1}, {0, 1}, {0, 0}, {0, -1}, {-1, 1}, {-1, 0}, {-1, -1}};
        for (int k = 0; k < 9; k++) {
            due(x.child(0, k, 2), 3 - Math.abs(rows[k][0]) - Math.abs(rows[k][1]));
            holds(2, 1, 0, 1, rows[k][0], rows[k][1], 3);
        }
        for (int none : new int[] {-1, 9, MIN, MAX}) {
            asked(NONE, () -> x.child(0, none, 1));
        }
        for (int bad : new int[] {-1, 6, 5, MIN, MAX}) {
            asked(BAD, () -> x.child(bad, 0, 1));
        }
        for (int bad : new int[] {-1, 6, MIN, MAX}) {
            asked(BAD, () -> x.child(0, 0, bad));
        }
        make(3, 1, 0, 1, 0, 0, 1, 0, 0, 0, 1);
        asked(STATE, () -> x.child(3, -1, 1));
        make(3, 2, 0, 2, 0, 0, 2, 0, 0, 0, 2);
        asked(FULL, () -> x.child(3, -1, 1));
        due(x.child(0, 4, 0), 3);
        holds(0, 1, 0, 1, 0, 0, 3);
    }

    private static void next() {
        promise(31);
        make(0, 1, 0, 2, 0, 0, 4);
        due(x.children(0) > 64 ? 1 : 0, 1);
        int all = x.children(0);
        asked(64, () -> x.next(0, 0, 0));
        asked(64, () -> x.next(0, all - 64, 0));
        asked(63, () -> x.next(0, all - 63, 0));
        asked(1, () -> x.next(0, all - 1, 0));
        asked(0, () -> x.next(0, all, 0));
        asked(0, () -> x.next(0, all, 1));
        asked(0, () -> x.next(0, all, 2));
        asked(-2, () -> x.next(0, all, 3));
        asked(0, () -> x.next(0, MAX, 0));
        asked(-2, () -> x.next(0, MAX, 3));
        nextIsAsItsChildren(0, 0);
        nextIsAsItsChildren(0, all - 40);
        make(1, 1, 0, 2, 0, 0, 5);
        nextIsAsItsChildren(1, 0);
        nextIsAsItsChildren(1, 100);
        make(2, 2, 0, 3, 0, 0, 7);
        nextIsAsItsChildren(2, 3);
        make(3, 1, 1, 3, 0, 0, 3);
        nextIsAsItsChildren(3, 1);
        make(3, 1, 0, 2, 0, 0, 10);
        nextIsAsItsChildren(3, 0);
        asked(3, () -> x.next(3, 0, 3));
        asked(67, () -> x.next(3, 64, 3));
        asked(34, () -> x.next(3, 0, 1));
        x.single(4, 1);
        nextIsAsItsChildren(4, 0);
        for (int bad : new int[] {-1, MIN}) {
            asked(BAD, () -> x.next(0, bad, 0));
        }
        for (int bad : new int[] {-1, 4, MIN, MAX}) {
            asked(BAD, () -> x.next(0, 0, bad));
        }
        for (int bad : new int[] {-1, 6, 5, MIN, MAX}) {
            asked(BAD, () -> x.next(bad, 0, 0));
        }
        make(3, 1, 0, 1, 0, 0, 1, 0, 0, 0, 1);
        asked(STATE, () -> x.next(3, 0, 0));
        make(3, 2, 0, 2, 0, 0, 2, 0, 0, 0, 2);
        asked(FULL, () -> x.next(3, 0, 0));
    }

    /** All rows are tried by the call that makes a form of a sheet. */
    private static int childrenByHand(int s) {
        int t = x.truant(s);
        x.sheet(0, 1, 10);
        x.spread(s, 0, 0);
        x.cell(0, 9, t);
        int found = 0;
        int[] top = new int[3];
        for (int i = 0; i < 3; i++) {
            while ((top[i] + 1) * (top[i] + 1) < x.at(s, i, i) * t) {
                top[i]++;
            }
        }
        for (int r0 = -top[0]; r0 <= top[0]; r0++) {
            x.cell(0, 6, r0);
            for (int r1 = -top[1]; r1 <= top[1]; r1++) {
                x.cell(0, 7, r1);
                for (int r2 = -top[2]; r2 <= top[2]; r2++) {
                    x.cell(0, 8, r2);
                    found += x.form(5, 0, 0, 4) == 4 ? 1 : 0;
                }
            }
        }
        x.clear(5);
        return found;
    }

    private static void nextIsAsItsChildren(int s, int k) {
        int many = Math.min(64, x.children(s) - k);
        int claims = 0;
        int greatest = 0;
        int first = -2;
        for (int i = 0; i < many; i++) {
            x.child(s, k + i, 5);
            if (x.claim(5, 0) == 1) {
                claims++;
                first = first == -2 ? k + i : first;
            }
            for (int j = 0; x.lacks(5, 0, j) > 0; j++) {
                greatest = Math.max(greatest, x.lacks(5, 0, j));
            }
        }
        x.clear(5);
        int[] want = {many, claims, greatest, first};
        for (int what = 0; what < 4; what++) {
            int which = what;
            asked(want[what], () -> x.next(s, k, which));
        }
    }

    private static void tree() {
        promise(32);
        x.single(0, 1);
        make(1, 1, 0, 1);
        due(x.plant(0), 0);
        due(x.count(1), 1);
        due(x.ofNode(0, 8), 1);
        x.branch(0, 0);
        x.branch(0, 1);
        due(x.plant(1), 3);
        due(x.count(1), 1);
        due(x.ofNode(0, 1), 2);
        due(x.ofNode(0, 0), -2);
        for (int bad : new int[] {-1, 6, 5, MIN, MAX}) {
            asked(BAD, () -> x.plant(bad));
        }
        // what the slot holds later is not the node's
        x.single(1, 50);
        due(x.ofNode(0, 1), 2);

        promise(33);
        asked(BAD, () -> x.branch(0, 0));
        x.single(0, 1);
        x.plant(0);
        due(x.branch(0, 2), 1);
        due(x.branch(0, 2), 2);
        due(x.branch(1, 0), 3);
        due(x.ofNode(1, 8), 1);
        due(x.ofNode(3, 1), 3);
        for (int bad : new int[] {-1, 4, MIN, MAX}) {
            asked(BAD, () -> x.branch(bad, 0));
        }
        for (int none : new int[] {-1, 3, MIN, MAX}) {
            asked(NONE, () -> x.branch(0, none));
        }
        make(1, 1, 0, 1, 0, 0, 1, 0, 0, 0, 1);
        x.plant(1);
        asked(STATE, () -> x.branch(0, -1));
        make(1, 2, 0, 2, 0, 0, 2, 0, 0, 0, 2);
        x.plant(1);
        asked(FULL, () -> x.branch(0, -1));
        x.plant(0);
        for (int i = 1; i < 30; i++) {
            due(x.branch(0, i % 3), i);
        }
        asked(FULL, () -> x.branch(0, 0));
        asked(FULL, () -> x.branch(0, 99));
        asked(BAD, () -> x.branch(30, 0));

        promise(34);
        grownTree();
        int[][] nodes = {
            {-2, 1, 2, 3, 3, 5, 2, -2, 1},
            {0, 2, 3, 1, 1, 1, 0, 0, 1},
            {0, 2, 5, 2, 2, 3, 2, 1, 2},
            {0, 2, 3, 0, 0, 1, 0, 2, 1},
            {1, 3, 0, 0, 0, 1, 0, 0, 0},
            {2, 3, 0, 0, 0, 1, 0, 4, 0},
            {2, 3, 14, 2, 1, 2, 2, 5, 8},
            {6, 4, 0, 0, 0, 1, 1, 30, 16},
            {6, 4, 0, 0, 0, 1, 1, 20, 22}};
        for (int node = 0; node < nodes.length; node++) {
            for (int what = 0; what < 9; what++) {
                boolean free = (node == 4 || node == 5) && (what == 2 || what == 8);
                if (!free) {
                    int which = node;
                    int what2 = what;
                    asked(nodes[node][what], () -> x.ofNode(which, what2));
                }
            }
        }
        x.plant(0);
        for (int node = 0; node < 3; node++) {
            due(x.ofNode(0, 4), node);
            due(x.ofNode(0, 5), 1);
            due(x.branch(node, 0), node + 1);
        }
        due(x.ofNode(0, 4), 3);
        due(x.branch(0, 0), 4);
        due(x.ofNode(0, 4), 3);
        due(x.ofNode(0, 5), 2);
        due(x.ofNode(1, 5), 1);
        for (int bad : new int[] {-1, 9, MIN, MAX}) {
            asked(BAD, () -> x.ofNode(bad, 0));
            asked(BAD, () -> x.ofNode(0, bad));
        }

        promise(35);
        grownTree();
        due(x.nodeTo(6, 5), 8);
        holds(5, 1, 0, 2, 1, 0, 5);
        due(x.nodeTo(0, 5), 1);
        holds(5, 1);
        for (int bad : new int[] {-1, 9, MIN, MAX}) {
            asked(BAD, () -> x.nodeTo(bad, 0));
        }
        for (int bad : new int[] {-1, 6, MIN, MAX}) {
            asked(BAD, () -> x.nodeTo(0, bad));
        }
        x.single(5, 7);
        due(x.ofNode(0, 8), 1);

        promise(36);
        asked(NONE, () -> x.walk(0));
        grownTree();
        int[] walk = {0, 1, 4, 2, 5, 6, 7, 8, 3};
        for (int i = 0; i < walk.length; i++) {
            int place = i;
            asked(walk[i], () -> x.walk(place));
        }
        for (int none : new int[] {-1, 9, MIN, MAX}) {
            asked(NONE, () -> x.walk(none));
        }

        promise(37);
        asked(BAD, () -> x.cut(0));
        grownTree();
        for (int bad : new int[] {-1, 9, MIN, MAX}) {
            asked(BAD, () -> x.cut(bad));
        }
        due(x.cut(1), 7);
        int[][] left = {{-2, -2, 1}, {0, 1, 2}, {0, 2, 1}, {1, 4, x.ofNode(3, 8)}, {1, 5, 8}, {4, 30, 16}, {4, 20, 22}};
        for (int node = 0; node < left.length; node++) {
            due(x.ofNode(node, 0), left[node][0]);
            due(x.ofNode(node, 7), left[node][1]);
            due(x.ofNode(node, 8), left[node][2]);
        }
        due(x.cut(6), 6);
        due(x.cut(1), 2);
        due(x.ofNode(1, 7), 2);
        due(x.ofNode(1, 0), 0);
        due(x.branch(0, 0), 2);
        due(x.cut(0), 0);
        due(x.count(1), 0);
        asked(BAD, () -> x.cut(0));
    }

    /** 0 has 1, 2, 3 under it, 1 has 4, 2 has 5 and 6, 6 has 7 and 8. */
    private static void grownTree() {
        x.single(0, 1);
        x.plant(0);
        x.branch(0, 0);
        x.branch(0, 1);
        x.branch(0, 2);
        x.branch(1, 0);
        x.branch(2, 4);
        x.branch(2, 5);
        x.branch(6, 30);
        x.branch(6, 20);
    }

    private static void sheets() {
        promise(38);
        due(x.sheet(0, 0, 40), 1);
        due(x.sheet(3, 1, 0), 1);
        due(x.item(0, 39), 0);
        due(x.item(0, 40), Long.MIN_VALUE);
        due(x.item(3, 0), Long.MIN_VALUE);
        x.cell(0, 1, 5);
        due(x.sheet(0, 1, 2), 1);
        carries(0, 0, 0, 0);
        due(x.sheet(0, -1, MAX), 1);
        due(x.sheet(0, -1, MIN), 1);
        due(x.cell(0, 0, 0), NOTHING);
        for (int bad : new int[] {-1, 4, MIN, MAX}) {
            asked(BAD, () -> x.sheet(bad, 0, 1));
            asked(BAD, () -> x.sheet(bad, -1, -1));
        }
        for (int bad : new int[] {-2, 2, MIN, MAX}) {
            asked(BAD, () -> x.sheet(3, bad, -1));
        }
        asked(BAD, () -> x.sheet(3, 0, 41));
        asked(BAD, () -> x.sheet(3, 1, MAX));
        asked(SIZE, () -> x.sheet(3, 0, -1));
        asked(SIZE, () -> x.sheet(3, 1, MIN));

        promise(39);
        x.sheet(0, 0, 2);
        x.sheet(1, 1, 2);
        int[][] cells = {{127, 127}, {128, -128}, {255, -1}, {256, 0}, {-129, 127}, {MIN, 0}, {MAX, -1}};
        for (int[] pair : cells) {
            due(x.cell(0, 1, pair[0]), 1);
            due(x.item(0, 1), pair[1]);
            due(x.cell(1, 0, pair[0]), 1);
            due(x.item(1, 0), pair[0]);
        }
        due(x.item(0, 0), 0);
        due(x.item(1, 1), 0);
        for (int bad : new int[] {-1, 4, MIN, MAX}) {
            asked(BAD, () -> x.cell(bad, 0, 1));
        }
        asked(NOTHING, () -> x.cell(2, -1, 1));
        for (int bad : new int[] {-1, 2, MIN, MAX}) {
            asked(OUTSIDE, () -> x.cell(0, bad, 1));
        }

        promise(40);
        write(0, 5, MIN, MAX);
        asked(5, () -> x.item(0, 0));
        asked(MIN, () -> x.item(0, 1));
        asked(MAX, () -> x.item(0, 2));
        for (int bad : new int[] {-1, 3, 4, MIN, MAX}) {
            asked(Long.MIN_VALUE, () -> x.item(0, bad));
        }
        for (int bad : new int[] {-1, 1, 4, MIN, MAX}) {
            asked(Long.MIN_VALUE, () -> x.item(bad, 0));
        }

        promise(41);
        write(0, 1, 2, 3, 4, 5);
        write(1, 11, 12, 13);
        due(x.move(0, 1, 1, 0, 2), 2);
        carries(1, 0, 2, 3, 13);
        due(x.move(0, 0, 0, 1, 4), 4);
        carries(0, 0, 1, 1, 2, 3, 4);
        due(x.move(0, 2, 0, 0, 3), 3);
        carries(0, 0, 2, 3, 4, 3, 4);
        asked(0, () -> x.move(0, 5, 1, 3, 0));
        due(x.move(0, 2, 1, 0, 3), 3);
        carries(1, 0, 4, 3, 4);
        for (int bad : new int[] {-1, 4, MIN, MAX}) {
            asked(BAD, () -> x.move(bad, 0, 0, 0, 1));
            asked(BAD, () -> x.move(0, 0, bad, 0, 1));
        }
        asked(NOTHING, () -> x.move(0, -1, 2, 0, 1));
        asked(NOTHING, () -> x.move(2, -1, 0, 0, 1));
        x.sheet(2, 0, 3);
        asked(SORT, () -> x.move(0, -1, 2, 0, 1));
        asked(SORT, () -> x.move(2, 0, 0, 0, 1));
        int[][] outside = {{-1, 0, 1}, {0, -1, 1}, {0, 0, -1}, {5, 0, 1}, {0, 3, 1}, {0, 0, 4}, {3, 0, 3}, {6, 0, 0}, {0, 4, 0},
            {MAX, 0, 1}, {0, MAX, 1}, {1, 1, MAX}, {MIN, 0, 0}, {0, MIN, 0}, {0, 0, MIN}, {MAX, MAX, MAX}};
        for (int[] bad : outside) {
            asked(OUTSIDE, () -> x.move(0, bad[0], 1, bad[1], bad[2]));
        }
        due(x.sheet(3, 0, 3), 1);
        x.cell(2, 0, -7);
        due(x.move(2, 0, 3, 2, 1), 1);
        carries(3, 0, 0, 0, -7);
    }

    private static void kept() {
        promise(42);
        due(x.keep(), 0);
        due(x.count(3), 1);
        grownTree();
        make(2, 2, 1, 2);
        x.sheet(0, 1, 3);
        due(x.keep(), 2);
        due(x.keep(), 2);

        promise(43);
        asked(NONE, () -> x.back());
        grownTree();
        make(2, 2, 1, 2);
        x.keep();
        String state = state();
        x.scale(2, 3);
        x.single(0, 5);
        x.single(4, 5);
        x.cut(2);
        x.branch(0, 0);
        due(x.back(), 2);
        due(state().equals(state) ? 1 : 0, 1);
        x.plant(2);
        x.clear(2);
        due(x.back(), 2);
        due(state().equals(state) ? 1 : 0, 1);
        // what is on sheets is not kept, and what is kept anew is in place of what was ahead
        x.sheet(0, 1, 3);
        x.clear(0);
        x.cut(0);
        due(x.keep(), 1);
        x.single(0, 3);
        x.plant(0);
        due(x.back(), 1);
        due(x.count(0), 1);
        due(x.count(1), 0);
        due(x.count(2), 1);
        holds(2, 2, 1, 2);

        promise(44);
        x.single(1, 1);
        x.single(3, 1);
        x.plant(1);
        x.branch(0, 0);
        x.branch(0, 0);
        x.sheet(0, 0, 0);
        asked(2, () -> x.count(0));
        asked(3, () -> x.count(1));
        asked(1, () -> x.count(2));
        asked(0, () -> x.count(3));
        x.keep();
        asked(1, () -> x.count(3));
        x.clear(3);
        x.cut(2);
        x.sheet(0, -1, 0);
        asked(1, () -> x.count(0));
        asked(2, () -> x.count(1));
        asked(0, () -> x.count(2));
        for (int bad : new int[] {-1, 4, MIN, MAX}) {
            asked(BAD, () -> x.count(bad));
        }
    }
}
