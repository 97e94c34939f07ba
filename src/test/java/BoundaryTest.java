/**
 * The clauses of promises 1 to 44 that bound something, each by its own words: the last that is let in and the first that
 * is not, the empty thing and the full one.
 */
public final class BoundaryTest extends Bounds {
    private static final int[] RULE_SIZES = {9, 7, 17};
    private static final int[] RULE_LASTS = {15, 33, 73};

    public static void main(String[] args) throws Exception {
        promise(1);
        newObject();
        promise(2);
        single();
        promise(3);
        form();
        promise(4);
        spread();
        promise(5);
        clear();
        promise(6);
        entry();
        promise(7);
        at();
        promise(8);
        minor();
        promise(9);
        of();
        promise(10);
        worth();
        promise(11);
        change();
        promise(12);
        swap();
        promise(13);
        scale();
        promise(14);
        join();
        promise(15);
        reduce();
        promise(16);
        same();
        promise(17);
        unlike();
        promise(18);
        takes();
        promise(19);
        vector();
        promise(20);
        truant();
        promise(21);
        exceptions();
        promise(22);
        exception();
        promise(23);
        residues();
        promise(24);
        barred();
        promise(25);
        rule();
        promise(26);
        claim();
        promise(27);
        lacks();
        promise(28);
        certify();
        promise(29);
        children();
        promise(30);
        child();
        promise(31);
        next();
        promise(32);
        plant();
        promise(33);
        branch();
        promise(34);
        ofNode();
        promise(35);
        nodeTo();
        promise(36);
        walk();
        promise(37);
        cut();
        promise(38);
        sheet();
        promise(39);
        cell();
        promise(40);
        item();
        promise(41);
        move();
        promise(42);
        keep();
        promise(43);
        back();
        promise(44);
        count();
        wordsAreTheDocuments(1, 44);
        Scene.end("the bounds of the promises are the document's");
    }

    // ---- forms

    private static void newObject() {
        says("No SLOT holds a FORM, THE TREE has no NODES");
        for (int what = 0; what < 4; what++) {
            int which = what;
            leaves(0, x -> x.count(which));
        }
        for (int s = 0; s < 6; s++) {
            int slot = s;
            leaves(0, x -> x.of(slot, 0));
            leaves(NONE, x -> x.of(slot, 1));
            leaves(NO, x -> x.at(slot, 0, 0));
        }
        leaves(NONE, x -> x.walk(0));
        leaves(BAD, x -> x.cut(0));
        leaves(NONE, x -> x.back());
    }

    private static void single() {
        says("BAD: slot, a (1 .. 99)");
        does(1, x -> x.single(0, 1));
        does(99, x -> x.single(5, 99));
        holds(0, 1);
        holds(5, 99);
        leavesAll(BAD, (x, a) -> x.single(0, a), 0, 100, -1, -99, MIN, MAX);
        leavesAll(BAD, (x, s) -> x.single(s, 50), NO_SLOT);
    }

    private static void form() {
        says("SLOT s holds the FORM of n letters (1 .. 4)");
        now.row(0, 5, 1, 6, 1, 2, 7, 1, 2, 3, 8);
        does(1, x -> x.form(0, 0, 0, 1));
        holds(0, 5);
        does(4, x -> x.form(0, 0, 0, 4));
        holds(0, 5, 1, 6, 1, 2, 7, 1, 2, 3, 8);
        says("BAD: slot, sheet, n");
        now.row(0, 5, 1, 6, 1, 2, 7, 1, 2, 3, 8, 1, 2, 3, 4, 99);
        does(1, x -> x.form(5, 0, 0, 1));
        leavesAll(BAD, (x, s) -> x.form(s, 0, 0, 1), NO_SLOT);
        leavesAll(BAD, (x, sheet) -> x.form(0, sheet, 0, 1), NO_SHEET);
        leavesAll(BAD, (x, n) -> x.form(0, 0, 0, n), 0, 5, -1, MIN, MAX);
        says("NOTHING");
        leavesAll(NOTHING, (x, sheet) -> x.form(0, sheet, 0, 1), 0, 1, 2, 3);
        says("OUTSIDE: they are not all there");
        now.row(0, 1, 2, 0, 2, 0, 0, 2, 0, 0, 0, 2);
        does(4, x -> x.form(0, 0, 1, 4));
        leavesAll(OUTSIDE, (x, from) -> x.form(0, 0, from, 4), -1, 2, 11, 12, MIN, MAX);
        does(1, x -> x.form(1, 0, 10, 1));
        leavesAll(OUTSIDE, (x, from) -> x.form(0, 0, from, 1), -1, 11, MIN, MAX);
        does(1, x -> x.sheet(1, 1, 0));
        leaves(OUTSIDE, x -> x.form(0, 1, 0, 1));
        does(1, x -> x.sheet(2, 1, 40));
        does(1, x -> x.cell(2, 39, 9));
        does(1, x -> x.form(0, 2, 39, 1));
        leaves(OUTSIDE, x -> x.form(0, 2, 40, 1));
        leaves(OUTSIDE, x -> x.form(0, 2, 38, 2));
        says("BAD: one is not -99 .. 99");
        now.form(0, 99, 98, 99);
        for (int place = 0; place < 10; place++) {
            for (int bad : new int[] {100, -100, MIN, MAX}) {
                int[] entries = {9, 0, 9, 0, 0, 9, 0, 0, 0, 9};
                entries[place] = bad;
                now.noForm(BAD, entries);
            }
        }
        // what stands behind the form's entries is none of them
        now.row(0, 99, 100);
        does(1, x -> x.form(0, 0, 0, 1));
        says("UNFIT");
        now.form(0, 99, 98, 99);
        now.noForm(UNFIT, 99, 99, 99);
        now.noForm(UNFIT, 0);
        now.noForm(UNFIT, -99);
    }

    private static void spread() {
        says("how many (n (n + 1) / 2)");
        for (int n = 1; n <= 4; n++) {
            int letters = n;
            diagonal(0, java.util.Arrays.copyOf(new int[] {6, 7, 8, 9}, n));
            does(1, x -> x.sheet(0, 0, letters * (letters + 1) / 2));
            does(n * (n + 1) / 2, x -> x.spread(0, 0, 0));
            now.carries(0, java.util.Arrays.copyOf(new int[] {6, 0, 7, 0, 0, 8, 0, 0, 0, 9}, n * (n + 1) / 2));
        }
        says("BAD: slot, sheet");
        does(1, x -> x.single(0, 1));
        does(1, x -> x.sheet(0, 1, 40));
        leavesAll(BAD, (x, s) -> x.spread(s, 0, 0), NO_SLOT);
        leavesAll(BAD, (x, s) -> x.spread(s, 0, 0), 1, 5);
        leavesAll(BAD, (x, sheet) -> x.spread(0, sheet, 0), NO_SHEET);
        says("NOTHING");
        does(1, x -> x.single(0, 1));
        leavesAll(NOTHING, (x, sheet) -> x.spread(0, sheet, 0), 0, 1, 2, 3);
        says("OUTSIDE: they have no room there");
        diagonal(0, 6, 7, 8, 9);
        does(5, x -> x.single(1, 5));
        does(1, x -> x.sheet(0, 1, 11));
        does(10, x -> x.spread(0, 0, 1));
        leavesAll(OUTSIDE, (x, from) -> x.spread(0, 0, from), -1, 2, 11, 12, MIN, MAX);
        does(1, x -> x.spread(1, 0, 10));
        leavesAll(OUTSIDE, (x, from) -> x.spread(1, 0, from), -1, 11, MIN, MAX);
        does(1, x -> x.sheet(1, 0, 0));
        leaves(OUTSIDE, x -> x.spread(1, 1, 0));
        does(1, x -> x.sheet(1, 0, 40));
        does(10, x -> x.spread(0, 1, 30));
        leaves(OUTSIDE, x -> x.spread(0, 1, 31));
    }

    private static void clear() {
        says("the letters it had (0: none)");
        for (int n = 1; n <= 4; n++) {
            int letters = n;
            diagonal(5, java.util.Arrays.copyOf(new int[] {6, 7, 8, 9}, n));
            does(letters, x -> x.clear(5));
            leaves(0, x -> x.of(5, 0));
            leaves(0, x -> x.clear(5));
        }
        says("BAD: no such slot");
        does(1, x -> x.single(0, 1));
        does(1, x -> x.single(5, 1));
        leavesAll(BAD, (x, s) -> x.clear(s), NO_SLOT);
        does(1, x -> x.clear(0));
        does(1, x -> x.clear(5));
    }

    private static void entry() {
        says("BAD: slot, i, j, a");
        diagonal(0, 98, 98, 98, 98);
        does(99 * 98 * 98 * 98, x -> x.entry(0, 3, 3, 99));
        does(99 * 99 * 98 * 98, x -> x.entry(0, 0, 0, 99));
        leavesAll(BAD, (x, a) -> x.entry(0, 0, 0, a), -100, 100, MIN, MAX);
        leavesAll(BAD, (x, a) -> x.entry(0, 3, 0, a), -100, 100, MIN, MAX);
        leavesAll(BAD, (x, i) -> x.entry(0, i, 0, 1), -1, 4, MIN, MAX);
        leavesAll(BAD, (x, j) -> x.entry(0, 0, j, 1), -1, 4, MIN, MAX);
        leavesAll(BAD, (x, s) -> x.entry(s, 0, 0, 1), NO_SLOT);
        leavesAll(BAD, (x, s) -> x.entry(s, 0, 0, 1), 1, 5);
        does(7, x -> x.single(1, 7));
        leaves(BAD, x -> x.entry(1, 1, 0, 1));
        leaves(BAD, x -> x.entry(1, 0, 1, 1));
        does(1, x -> x.entry(1, 0, 0, 1));
        says("UNFIT");
        diagonal(0, 99, 99);
        does(9801 - 98 * 98, x -> x.entry(0, 0, 1, 98));
        leaves(UNFIT, x -> x.entry(0, 0, 1, 99));
        does(9801 - 98 * 98, x -> x.entry(0, 1, 0, -98));
        holds(0, 99, -98, 99);
        leaves(UNFIT, x -> x.entry(0, 1, 0, -99));
        does(7, x -> x.single(1, 7));
        leavesAll(UNFIT, (x, a) -> x.entry(1, 0, 0, a), 0, -1, -99);
        // DET becomes 1, then it would be 0
        now.form(2, 6, 2, 1);
        does(1, x -> x.entry(2, 0, 0, 5));
        leaves(UNFIT, x -> x.entry(2, 0, 0, 4));
        // only the BOX is too great
        diagonal(3, 1, 1, 1, 1);
        does(97, x -> x.entry(3, 1, 1, 97));
        does(97 - 81, x -> x.entry(3, 0, 1, 9));
        does(83 - 81, x -> x.entry(3, 1, 1, 83));
        leaves(853335, x -> x.of(3, 2));
        leaves(UNFIT, x -> x.entry(3, 1, 1, 82));
    }

    private static void at() {
        says("NO: slot, i, j");
        now.form(0, 5, -1, 6, 1, -2, 7, 1, 2, -3, 8);
        leaves(5, x -> x.at(0, 0, 0));
        leaves(8, x -> x.at(0, 3, 3));
        leaves(-3, x -> x.at(0, 2, 3));
        leaves(-3, x -> x.at(0, 3, 2));
        leavesAll(NO, (x, i) -> x.at(0, i, 0), -1, 4, MIN, MAX);
        leavesAll(NO, (x, j) -> x.at(0, 0, j), -1, 4, MIN, MAX);
        leavesAll(NO, (x, s) -> x.at(s, 0, 0), NO_SLOT);
        leavesAll(NO, (x, s) -> x.at(s, 0, 0), 1, 5);
        does(3, x -> x.single(1, 3));
        leaves(NO, x -> x.at(1, 1, 0));
        leaves(NO, x -> x.at(1, 0, 1));
    }

    private static void minor() {
        says("BAD: slot, k (0 .. n)");
        for (int n = 1; n <= 4; n++) {
            int letters = n;
            diagonal(0, java.util.Arrays.copyOf(new int[] {2, 3, 5, 7}, n));
            leaves(1, x -> x.minor(0, 0));
            leaves(new int[] {2, 6, 30, 210}[n - 1], x -> x.minor(0, letters));
            leavesAll(BAD, (x, k) -> x.minor(0, k), -1, n + 1, MIN, MAX);
        }
        leavesAll(BAD, (x, s) -> x.minor(s, 0), NO_SLOT);
        leavesAll(BAD, (x, s) -> x.minor(s, 0), 1, 5);
        diagonal(1, 99, 99, 99, 99);
        leaves(96059601, x -> x.minor(1, 4));
    }

    private static void of() {
        says("BAD: no such slot, what");
        now.form(0, 5, -1, 6);
        leaves(2, x -> x.of(0, 0));
        leaves(29, x -> x.of(0, 1));
        leaves(9 * 9, x -> x.of(0, 2));
        leaves(6, x -> x.of(0, 3));
        leavesAll(BAD, (x, what) -> x.of(0, what), -1, 4, MIN, MAX);
        leavesAll(BAD, (x, what) -> x.of(5, what), -1, 4, MIN, MAX);
        leavesAll(BAD, (x, s) -> x.of(s, 0), NO_SLOT);
        leavesAll(BAD, (x, s) -> x.of(s, 3), NO_SLOT);
        says("NONE: it holds none (what 0: 0)");
        for (int s = 0; s < 6; s += 5) {
            int slot = s;
            leaves(0, x -> x.of(slot, 0));
            leavesAll(NONE, (x, what) -> x.of(slot, what), 1, 2, 3);
        }
        says("3 the greatest of a_ii");
        diagonal(0, 99, 1, 1);
        leaves(99, x -> x.of(0, 3));
        diagonal(0, 1, 1, 99);
        leaves(99, x -> x.of(0, 3));
        does(1, x -> x.single(0, 1));
        leaves(1, x -> x.of(0, 3));
        // an entry that is none of these doesn't count
        now.form(0, 1, 9, 99);
        leaves(99, x -> x.of(0, 3));
        now.form(0, 40, 41, 43);
        leaves(43, x -> x.of(0, 3));
    }

    private static void worth() {
        says("WORTH of the VECTOR of the first n of x, y, z, w by SLOT s");
        for (int n = 1; n <= 4; n++) {
            diagonal(n, java.util.Arrays.copyOf(new int[] {1, 10, 20, 30}, n));
        }
        int[] worths = {1, 11, 31, 61};
        for (int n = 1; n <= 4; n++) {
            int letters = n;
            leaves(worths[n - 1], x -> x.worth(letters, 1, letters > 1 ? 1 : MIN, letters > 2 ? -1 : MAX, letters > 3 ? -1 : MIN));
            leaves(0, x -> x.worth(letters, 0, 0, 0, 0));
        }
        says("BAD");
        does(1, x -> x.single(0, 1));
        leavesAll(BAD, (x, s) -> x.worth(s, 0, 0, 0, 0), NO_SLOT);
        leavesAll(BAD, (x, s) -> x.worth(s, MAX, MAX, MAX, MAX), 1, 5, 6);
        says("WIDE: all a_ij x_i x_j without signs together are above LARGEST");
        does(1, x -> x.single(0, 1));
        leaves(1L << 62, x -> x.worth(0, MIN, 0, 0, 0));
        leaves((long) MAX * MAX, x -> x.worth(0, MAX, 0, 0, 0));
        does(2, x -> x.single(0, 2));
        leaves(WIDE, x -> x.worth(0, MIN, 0, 0, 0));
        leaves(2L * MAX * MAX, x -> x.worth(0, MIN + 1, 0, 0, 0));
        // 99 times 305230034 squared is LARGEST or less, and a square more is not
        does(99, x -> x.single(0, 99));
        leaves(99L * 305230034 * 305230034, x -> x.worth(0, -305230034, 0, 0, 0));
        leaves(WIDE, x -> x.worth(0, 305230035, 0, 0, 0));
        // x x - 2 x y + 2 y y is small where x is y, its parts without signs are not: 5 y y
        now.form(1, 1, -1, 2);
        leaves(1358187913L * 1358187913L, x -> x.worth(1, 1358187913, 1358187913, 0, 0));
        leaves(WIDE, x -> x.worth(1, 1358187914, 1358187914, 0, 0));
        leaves(WIDE, x -> x.worth(1, MAX, MAX, 0, 0));
        leaves(WIDE, x -> x.worth(1, MIN, MIN, 0, 0));
        // what is too much in the last letter alone
        diagonal(2, 1, 1, 1, 99);
        leaves(3, x -> x.worth(2, 1, 1, 1, 0));
        leaves(WIDE, x -> x.worth(2, 0, 0, 0, 305230035));
        now.form(3, 99, 98, 99, 98, 97, 99, 98, 97, 97, 99);
        leaves(WIDE, x -> x.worth(3, MAX, MIN, MAX, MIN));
        leaves(WIDE, x -> x.worth(3, MIN, MIN, MIN, MIN));
    }

    private static void change() {
        says("Letter i of SLOT s is CHANGED by c (-9 .. 9) times letter j: DET");
        for (int side = -1; side <= 1; side += 2) {
            int c = 9 * side;
            diagonal(0, 1, 1);
            does(1, x -> x.change(0, 0, 1, c));
            holds(0, 82, c, 1);
            does(1, x -> x.change(0, 0, 1, -c));
            holds(0, 1, 0, 1);
            does(1, x -> x.change(0, 1, 0, c));
            holds(0, 1, c, 82);
        }
        diagonal(0, 1, 1);
        leaves(1, x -> x.change(0, 0, 1, 0));
        says("BAD: slot, i, j (also i being j), c");
        diagonal(0, 5, 5, 5, 5);
        leavesAll(BAD, (x, c) -> x.change(0, 0, 1, c), -10, 10, MIN, MAX);
        leavesAll(BAD, (x, i) -> x.change(0, i, 0, 1), -1, 4, 0, MIN, MAX);
        leavesAll(BAD, (x, j) -> x.change(0, 3, j, 1), -1, 4, 3, MIN, MAX);
        leavesAll(BAD, (x, i) -> x.change(0, i, i, 0), 0, 1, 2, 3);
        leavesAll(BAD, (x, s) -> x.change(s, 0, 1, 1), NO_SLOT);
        leavesAll(BAD, (x, s) -> x.change(s, 0, 1, 1), 1, 5);
        does(7, x -> x.single(1, 7));
        leaves(BAD, x -> x.change(1, 0, 0, 1));
        leaves(BAD, x -> x.change(1, 0, 1, 1));
        leaves(BAD, x -> x.change(1, 1, 0, 1));
        says("UNFIT");
        // a_00 becomes 99, then it would be 100
        diagonal(0, 18, 1);
        diagonal(1, 19, 1);
        leaves(UNFIT, x -> x.change(1, 0, 1, 9));
        leaves(UNFIT, x -> x.change(1, 0, 1, -9));
        does(18, x -> x.change(0, 0, 1, 9));
        holds(0, 99, 9, 1);
        // only the BOX would be too great
        now.form(2, 26, 5, 1, 0, 0, 1, 0, 0, 0, 1);
        leaves(UNFIT, x -> x.change(2, 0, 1, 1));
    }

    private static void swap() {
        says("Letters i and j of SLOT s change places: n");
        now.form(0, 5, -1, 6, 1, -2, 7, 1, 2, -3, 8);
        does(4, x -> x.swap(0, 0, 3));
        holds(0, 8, 2, 6, -3, -2, 7, 1, -1, 1, 5);
        does(4, x -> x.swap(0, 3, 0));
        holds(0, 5, -1, 6, 1, -2, 7, 1, 2, -3, 8);
        // with itself a letter changes places without a trace
        for (int i = 0; i < 4; i++) {
            int letter = i;
            leaves(4, x -> x.swap(0, letter, letter));
        }
        does(7, x -> x.single(1, 7));
        leaves(1, x -> x.swap(1, 0, 0));
        // the greatest BOX there is stays lawful
        now.form(2, WIDE_BOX);
        does(3, x -> x.swap(2, 0, 2));
        leaves(999999, x -> x.of(2, 2));
        says("BAD");
        now.form(0, 5, -1, 6);
        leavesAll(BAD, (x, i) -> x.swap(0, i, 0), -1, 2, MIN, MAX);
        leavesAll(BAD, (x, j) -> x.swap(0, 0, j), -1, 2, MIN, MAX);
        leavesAll(BAD, (x, i) -> x.swap(0, i, i), -1, 2, 3, MIN, MAX);
        leavesAll(BAD, (x, s) -> x.swap(s, 0, 0), NO_SLOT);
        leavesAll(BAD, (x, s) -> x.swap(s, 0, 0), 1, 5);
    }

    private static void scale() {
        says("All entries of SLOT s become c (1 .. 99) times what they are: DET");
        does(1, x -> x.single(0, 1));
        does(99, x -> x.scale(0, 99));
        holds(0, 99);
        leaves(99, x -> x.scale(0, 1));
        now.form(1, 3, -2, 3);
        does(5 * 33 * 33, x -> x.scale(1, 33));
        holds(1, 99, -66, 99);
        says("BAD");
        does(1, x -> x.single(0, 1));
        leavesAll(BAD, (x, c) -> x.scale(0, c), 0, 100, -1, MIN, MAX);
        leavesAll(BAD, (x, s) -> x.scale(s, 1), NO_SLOT);
        leavesAll(BAD, (x, s) -> x.scale(s, 1), 1, 5);
        says("UNFIT");
        does(2, x -> x.single(0, 2));
        leavesAll(UNFIT, (x, c) -> x.scale(0, c), 50, 99);
        does(98, x -> x.scale(0, 49));
        leaves(UNFIT, x -> x.scale(0, 2));
        does(33, x -> x.single(1, 33));
        leaves(UNFIT, x -> x.scale(1, 4));
        does(99, x -> x.scale(1, 3));
    }

    private static void join() {
        says("SLOT to holds the FORM with the letters of SLOT s and, behind them, those of SLOT t");
        now.form(0, 5, -1, 6);
        does(7, x -> x.single(1, 7));
        does(3, x -> x.join(0, 1, 5));
        holds(5, 5, -1, 6, 0, 0, 7);
        does(3, x -> x.join(1, 0, 0));
        holds(0, 7, 0, 5, 0, -1, 6);
        does(2, x -> x.join(1, 1, 1));
        holds(1, 7, 0, 7);
        does(4, x -> x.join(1, 1, 1));
        holds(1, 7, 0, 7, 0, 0, 7, 0, 0, 0, 7);
        says("BAD: s, t, no such slot to");
        does(1, x -> x.single(0, 1));
        leavesAll(BAD, (x, s) -> x.join(s, 0, 0), NO_SLOT);
        leavesAll(BAD, (x, s) -> x.join(s, 0, 0), 1, 5);
        leavesAll(BAD, (x, t) -> x.join(0, t, 0), NO_SLOT);
        leavesAll(BAD, (x, t) -> x.join(0, t, 0), 1, 5);
        leavesAll(BAD, (x, to) -> x.join(0, 0, to), NO_SLOT);
        says("FULL: they are above 4");
        for (int n = 1; n <= 4; n++) {
            diagonal(n, java.util.Arrays.copyOf(new int[] {6, 7, 8, 9}, n));
        }
        for (int n = 1; n <= 4; n++) {
            for (int m = 1; m <= 4; m++) {
                int s = n;
                int t = m;
                if (n + m > 4) {
                    leaves(FULL, x -> x.join(s, t, 0));
                } else {
                    does(n + m, x -> x.join(s, t, 5));
                }
            }
        }
        says("UNFIT");
        // the BOX of both is that of one times that of the other: 999999, and 1000025
        now.form(0, 5, 12, 31);
        now.form(1, 30, 51, 87);
        does(4, x -> x.join(0, 1, 5));
        leaves(999999, x -> x.of(5, 2));
        now.form(0, 18, 23, 88, 7, 5, 3);
        does(12, x -> x.single(1, 12));
        leaves(200005, x -> x.of(0, 2));
        leaves(UNFIT, x -> x.join(0, 1, 5));
        leaves(UNFIT, x -> x.join(1, 0, 4));
        leaves(UNFIT, x -> x.join(1, 0, 0));
        // the next BOX below 5 is 3
        does(26, x -> x.single(1, 26));
        does(4, x -> x.join(0, 1, 4));
        leaves(600015, x -> x.of(4, 2));
    }

    private static void reduce() {
        says("REDUCTION of SLOT s: how many STEPS");
        does(1, x -> x.single(0, 1));
        leaves(0, x -> x.reduce(0));
        diagonal(0, 99, 98, 97, 96);
        leaves(0, x -> x.reduce(0));
        now.form(0, 1, 9, 82);
        does(1, x -> x.reduce(0));
        holds(0, 1, 0, 1);
        // on the way the BOX is above 1000000, at the end it is 9261
        now.form(0, 9, 22, 54, 2, 5, 1);
        does(4, x -> x.reduce(0));
        holds(0, 1, 0, 1, 0, 0, 1);
        leaves(9261, x -> x.of(0, 2));
        says("BAD");
        does(1, x -> x.single(0, 1));
        leavesAll(BAD, (x, s) -> x.reduce(s), NO_SLOT);
        leavesAll(BAD, (x, s) -> x.reduce(s), 1, 5);
        says("UNFIT");
        now.form(0, 2, 0, 5, 0, -3, 5, -1, 4, -2, 4);
        leaves(UNFIT, x -> x.reduce(0));
    }

    private static void same() {
        says("1 if SLOTS s and t hold the same entries, else 0");
        now.form(0, 5, -1, 6, 1, -2, 7, 1, 2, -3, 8);
        now.form(5, 5, -1, 6, 1, -2, 7, 1, 2, -3, 8);
        leaves(1, x -> x.same(0, 5));
        leaves(1, x -> x.same(0, 0));
        // one entry less, in each place
        for (int place = 0; place < 10; place++) {
            int[] entries = {5, -1, 6, 1, -2, 7, 1, 2, -3, 8};
            entries[place]--;
            now.form(5, entries);
            leaves(0, x -> x.same(0, 5));
            leaves(0, x -> x.same(5, 0));
        }
        // fewer letters, the same as far as they go
        now.form(5, 5, -1, 6, 1, -2, 7);
        leaves(0, x -> x.same(0, 5));
        leaves(0, x -> x.same(5, 0));
        says("BAD");
        does(1, x -> x.single(0, 1));
        leavesAll(BAD, (x, s) -> x.same(s, 0), NO_SLOT);
        leavesAll(BAD, (x, t) -> x.same(0, t), NO_SLOT);
        leavesAll(BAD, (x, s) -> x.same(s, s), -1, 6, 5);
        leavesAll(BAD, (x, s) -> x.same(s, 0), 1, 5);
        leavesAll(BAD, (x, t) -> x.same(0, t), 1, 5);
    }

    private static void unlike() {
        says("The least m (0 .. 100) that has another COUNT by SLOT s than by SLOT t");
        does(1, x -> x.single(0, 1));
        does(99, x -> x.single(1, 99));
        leaves(1, x -> x.unlike(0, 1));
        leaves(1, x -> x.unlike(1, 0));
        now.form(0, 51, 5, 59);
        now.form(1, 51, 0, 59);
        leaves(100, x -> x.unlike(0, 1));
        leaves(100, x -> x.unlike(1, 0));
        // both take 2, one by more vectors
        now.form(0, 2, 1, 2);
        diagonal(1, 2, 2);
        leaves(2, x -> x.unlike(0, 1));
        says("BAD");
        does(1, x -> x.single(0, 1));
        leavesAll(BAD, (x, s) -> x.unlike(s, 0), NO_SLOT);
        leavesAll(BAD, (x, t) -> x.unlike(0, t), NO_SLOT);
        leavesAll(BAD, (x, s) -> x.unlike(s, s), -1, 6, 5);
        leavesAll(BAD, (x, s) -> x.unlike(s, 0), 1, 5);
        leavesAll(BAD, (x, t) -> x.unlike(0, t), 1, 5);
        says("NONE: there is none such");
        now.form(0, 2, 1, 2);
        now.form(1, 2, -1, 2);
        leaves(NONE, x -> x.unlike(0, 0));
        leaves(NONE, x -> x.unlike(0, 1));
        // what is above 100 doesn't matter: 51 + 50 is 101
        now.form(0, 50, 0, 51);
        now.form(1, 50, 0, 51, 0, 0, 99);
        leaves(99, x -> x.unlike(0, 1));
        now.form(0, 51, 0, 99);
        now.form(1, 51, 1, 99);
        leaves(NONE, x -> x.unlike(0, 1));
    }

    // ---- numbers that are taken

    private static void takes() {
        says("COUNT of m (0 .. 100) by SLOT s");
        diagonal(0, 1, 1);
        leaves(1, x -> x.takes(0, 0));
        leaves(4, x -> x.takes(0, 1));
        leaves(0, x -> x.takes(0, 99));
        leaves(12, x -> x.takes(0, 100));
        says("BAD");
        diagonal(0, 1, 1);
        leavesAll(BAD, (x, m) -> x.takes(0, m), -1, 101, MIN, MAX);
        leavesAll(BAD, (x, s) -> x.takes(s, 0), NO_SLOT);
        leavesAll(BAD, (x, s) -> x.takes(s, 100), 1, 5);
    }

    private static void vector() {
        says("x_j of the FIRST VECTOR of m (0 .. 100) by SLOT s");
        diagonal(0, 1, 1, 1, 1);
        first(0, 0, 0, 0, 0, 0);
        first(0, 100, 10, 0, 0, 0);
        first(0, 99, 9, 4, 1, 1);
        says("NO: slot, m, j, it is not TAKEN");
        diagonal(0, 1, 1, 1);
        leavesAll(NO, (x, s) -> x.vector(s, 0, 0), NO_SLOT);
        leavesAll(NO, (x, s) -> x.vector(s, 0, 0), 1, 5);
        leavesAll(NO, (x, m) -> x.vector(0, m, 0), -1, 101, MIN, MAX);
        leavesAll(NO, (x, j) -> x.vector(0, 1, j), -1, 3, MIN, MAX);
        leavesAll(NO, (x, j) -> x.vector(0, 7, j), 0, 1, 2);
        leavesAll(0, (x, j) -> x.vector(0, 0, j), 0, 1, 2);
    }

    private static void truant() {
        says("BAD");
        does(1, x -> x.single(0, 1));
        leaves(2, x -> x.truant(0));
        leavesAll(BAD, (x, s) -> x.truant(s), NO_SLOT);
        leavesAll(BAD, (x, s) -> x.truant(s), 1, 5);
        says("NONE: there is none");
        diagonal(0, 1, 2, 4, 8);
        leaves(NONE, x -> x.truant(0));
        diagonal(0, 1, 2, 5, 5);
        leaves(15, x -> x.truant(0));
        diagonal(0, 1, 2, 4, 15);
        leaves(14, x -> x.truant(0));
        diagonal(0, 1, 2, 4, 14);
        leaves(NONE, x -> x.truant(0));
    }

    private static void exceptions() {
        says("Of the EXCEPTIONS of SLOT s, up to m (1 .. 100)");
        does(99, x -> x.single(0, 99));
        leaves(1, x -> x.exceptions(0, 1, 0));
        leaves(1, x -> x.exceptions(0, 1, 2));
        leaves(98, x -> x.exceptions(0, 98, 0));
        leaves(98, x -> x.exceptions(0, 99, 0));
        leaves(98, x -> x.exceptions(0, 99, 2));
        leaves(99, x -> x.exceptions(0, 100, 0));
        leaves(100, x -> x.exceptions(0, 100, 2));
        says("1 how many that are BARRED by some M");
        // of what is no sum of three squares 7 is barred by 8, 28 only by 32
        diagonal(0, 1, 1, 1);
        leaves(0, x -> x.exceptions(0, 6, 1));
        leaves(1, x -> x.exceptions(0, 7, 1));
        leaves(3, x -> x.exceptions(0, 28, 1));
        leaves(4, x -> x.exceptions(0, 28, 0));
        leaves(4, x -> x.exceptions(0, 31, 1));
        leaves(12, x -> x.exceptions(0, 100, 1));
        diagonal(0, 1, 2, 5, 5);
        leaves(0, x -> x.exceptions(0, 100, 1));
        says("2 the greatest (0: there are none)");
        diagonal(0, 1, 2, 5, 5);
        leaves(0, x -> x.exceptions(0, 14, 2));
        leaves(15, x -> x.exceptions(0, 15, 2));
        leaves(15, x -> x.exceptions(0, 100, 2));
        diagonal(0, 1, 2, 4, 8);
        for (int what = 0; what < 3; what++) {
            int which = what;
            leaves(0, x -> x.exceptions(0, 100, which));
            leaves(0, x -> x.exceptions(0, 1, which));
        }
        says("BAD");
        does(99, x -> x.single(0, 99));
        leavesAll(BAD, (x, m) -> x.exceptions(0, m, 0), 0, 101, -1, MIN, MAX);
        leavesAll(BAD, (x, what) -> x.exceptions(0, 1, what), -1, 3, MIN, MAX);
        leavesAll(BAD, (x, s) -> x.exceptions(s, 1, 0), NO_SLOT);
        leavesAll(BAD, (x, s) -> x.exceptions(s, 1, 0), 1, 5);
    }

    private static void exception() {
        says("BAD: slot");
        does(1, x -> x.single(0, 1));
        leavesAll(BAD, (x, s) -> x.exception(s, 0), NO_SLOT);
        leavesAll(BAD, (x, s) -> x.exception(s, -1), 1, 5);
        says("NONE: there is none such");
        does(1, x -> x.single(0, 1));
        leaves(2, x -> x.exception(0, 0));
        leaves(99, x -> x.exception(0, 89));
        leavesAll(NONE, (x, i) -> x.exception(0, i), -1, 90, MIN, MAX);
        diagonal(0, 1, 2, 5, 5);
        leaves(15, x -> x.exception(0, 0));
        leavesAll(NONE, (x, i) -> x.exception(0, i), -1, 1);
        diagonal(0, 1, 2, 4, 8);
        leavesAll(NONE, (x, i) -> x.exception(0, i), -1, 0, 1);
    }

    private static void residues() {
        says("BAD: slot, M");
        does(1, x -> x.single(0, 1));
        leaves(0b11, x -> x.residues(0, 2));
        leaves(0b0000001000010011, x -> x.residues(0, 16));
        leavesAll(BAD, (x, m) -> x.residues(0, m), 1, 17, 0, -1, MIN, MAX);
        leavesAll(BAD, (x, s) -> x.residues(s, 2), NO_SLOT);
        leavesAll(BAD, (x, s) -> x.residues(s, 16), 1, 5);
    }

    private static void barred() {
        says("The M by which a number (any) is BARRED, by SLOT s");
        does(2, x -> x.single(0, 2));
        // an odd number is barred by 2, whatever its sign; the least int remains as 1 by 3, where 2 squares are 0 or 2
        leaves(2, x -> x.barred(0, MAX));
        leaves(2, x -> x.barred(0, MIN + 1));
        leaves(2, x -> x.barred(0, -1));
        leaves(3, x -> x.barred(0, MIN));
        leaves(3, x -> x.barred(0, -2));
        leaves(3, x -> x.barred(0, 100));
        leaves(NONE, x -> x.barred(0, 8));
        says("BAD: slot");
        does(1, x -> x.single(0, 1));
        leavesAll(BAD, (x, s) -> x.barred(s, 0), NO_SLOT);
        leavesAll(BAD, (x, s) -> x.barred(s, MIN), 1, 5);
        says("NONE: it is not");
        does(1, x -> x.single(0, 1));
        leavesAll(NONE, (x, number) -> x.barred(0, number), 0, 1, 4, 9, 100, 1681, 46340 * 46340);
        diagonal(1, 1, 1, 1);
        leavesAll(NONE, (x, number) -> x.barred(1, number), 0, 6, 28, MIN);
        leavesAll(8, (x, number) -> x.barred(1, number), 7, -1, MAX);
    }

    // ---- rules

    private static void rule() {
        says("BAD: rule");
        leaves(1, x -> x.rule(0, 0));
        leaves(2, x -> x.rule(2, 0));
        leavesAll(BAD, (x, rule) -> x.rule(rule, 0), NO_RULE);
        leavesAll(BAD, (x, rule) -> x.rule(rule, -1), NO_RULE);
        says("NONE: there is none such");
        for (int r = 0; r < 3; r++) {
            int rule = r;
            leaves(RULE_LASTS[r], x -> x.rule(rule, RULE_SIZES[rule] - 1));
            leavesAll(NONE, (x, i) -> x.rule(rule, i), -1, RULE_SIZES[r], MIN, MAX);
        }
    }

    private static void claim() {
        says("1 if the CLAIM of a RULE holds by SLOT s, else 0");
        diagonal(0, 1, 2, 5, 5);
        leaves(0, x -> x.claim(0, 0));
        leaves(1, x -> x.claim(0, 2));
        diagonal(1, 1, 1, 2);
        leaves(0, x -> x.claim(1, 0));
        leaves(1, x -> x.claim(1, 1));
        does(99, x -> x.single(2, 99));
        for (int rule = 0; rule < 3; rule++) {
            int which = rule;
            leaves(0, x -> x.claim(2, which));
        }
        says("BAD");
        diagonal(0, 1, 2, 4, 8);
        leavesAll(BAD, (x, rule) -> x.claim(0, rule), NO_RULE);
        leavesAll(BAD, (x, s) -> x.claim(s, 0), NO_SLOT);
        leavesAll(BAD, (x, s) -> x.claim(s, 2), 1, 5);
    }

    private static void lacks() {
        says("BAD: slot, rule");
        does(1, x -> x.single(0, 1));
        leavesAll(BAD, (x, rule) -> x.lacks(0, rule, 0), NO_RULE);
        leavesAll(BAD, (x, s) -> x.lacks(s, 0, 0), NO_SLOT);
        leavesAll(BAD, (x, s) -> x.lacks(s, 2, -1), 1, 5);
        says("NONE: there is none such");
        // of 99 x x none of the numbers is taken
        does(99, x -> x.single(0, 99));
        for (int r = 0; r < 3; r++) {
            int rule = r;
            leaves(r == 2 ? 2 : 1, x -> x.lacks(0, rule, 0));
            leaves(RULE_LASTS[r], x -> x.lacks(0, rule, RULE_SIZES[rule] - 1));
            leavesAll(NONE, (x, i) -> x.lacks(0, rule, i), -1, RULE_SIZES[r], MIN, MAX);
        }
        diagonal(1, 1, 2, 4, 8);
        leavesAll(NONE, (x, i) -> x.lacks(1, 0, i), 0, -1, 1, MIN, MAX);
    }

    private static void certify() {
        says("as many as have room whole: how many RULE's numbers came");
        // by x x + y y + 2 z z the odd numbers are certified: 7 of them, with 4 numbers each
        diagonal(0, 1, 1, 2);
        int[] all = {1, 1, 0, 0, 3, 1, 0, 1, 5, 2, 1, 0, 7, 2, 1, 1, 11, 3, 0, 1, 15, 3, 2, 1, 33, 5, 0, 2};
        for (int size : new int[] {0, 1, 3, 4, 5, 7, 8, 27, 28, 29, 40}) {
            does(1, x -> x.sheet(0, 1, size));
            does(Math.min(7, size / 4), x -> x.certify(0, 1, 0, 0));
            int[] row = java.util.Arrays.copyOf(java.util.Arrays.copyOf(all, Math.min(28, size / 4 * 4)), size);
            now.carries(0, row);
        }
        // 40 numbers are too few for the 17 primes by 5 numbers each
        diagonal(1, 1, 2, 5, 5);
        does(1, x -> x.sheet(1, 1, 40));
        does(8, x -> x.certify(1, 2, 1, 0));
        leaves(19, x -> x.item(1, 35));
        does(7, x -> x.certify(1, 2, 1, 1));
        does(0, x -> x.certify(1, 2, 1, 36));
        does(1, x -> x.certify(1, 2, 1, 35));
        leaves(2, x -> x.item(1, 35));
        says("(lowest 8 bits in bytes)");
        now.form(0, 27, 5, 82, 0, 9, 1);
        does(1, x -> x.sheet(0, 1, 40));
        does(1, x -> x.sheet(1, 0, 40));
        does(7, x -> x.certify(0, 1, 0, 0));
        does(7, x -> x.certify(0, 1, 1, 0));
        leaves(171, x -> x.item(0, 27));
        leaves(171 - 256, x -> x.item(1, 27));
        leaves(-19, x -> x.item(0, 26));
        leaves(-19, x -> x.item(1, 26));
        says("BAD: slot, rule, sheet");
        diagonal(0, 1, 2, 4, 8);
        does(1, x -> x.sheet(0, 1, 40));
        leavesAll(BAD, (x, s) -> x.certify(s, 0, 0, 0), NO_SLOT);
        leavesAll(BAD, (x, s) -> x.certify(s, 0, 0, 0), 1, 5);
        leavesAll(BAD, (x, rule) -> x.certify(0, rule, 0, 0), NO_RULE);
        leavesAll(BAD, (x, sheet) -> x.certify(0, 0, sheet, 0), NO_SHEET);
        says("STATE: the CLAIM does not hold");
        diagonal(0, 1, 2, 5, 5);
        does(1, x -> x.sheet(0, 1, 40));
        leaves(STATE, x -> x.certify(0, 0, 0, 0));
        leaves(STATE, x -> x.certify(0, 0, 1, 0));
        leaves(STATE, x -> x.certify(0, 0, 0, 41));
        does(8, x -> x.certify(0, 2, 0, 0));
        says("NOTHING");
        diagonal(0, 1, 2, 4, 8);
        leavesAll(NOTHING, (x, sheet) -> x.certify(0, 0, sheet, 0), 0, 1, 2, 3);
        leavesAll(NOTHING, (x, from) -> x.certify(0, 0, 0, from), -1, 41, MIN, MAX);
        says("OUTSIDE: from is below 0 or above how many numbers it has");
        diagonal(0, 1, 2, 4, 8);
        does(1, x -> x.sheet(0, 1, 40));
        does(1, x -> x.sheet(1, 0, 0));
        leaves(0, x -> x.certify(0, 0, 0, 40));
        leaves(0, x -> x.certify(0, 0, 1, 0));
        leavesAll(OUTSIDE, (x, from) -> x.certify(0, 0, 0, from), -1, 41, MIN, MAX);
        leavesAll(OUTSIDE, (x, from) -> x.certify(0, 0, 1, from), -1, 1, MIN, MAX);
    }

    // ---- escalation

    private static void children() {
        says("BAD");
        does(1, x -> x.single(0, 1));
        leavesAll(BAD, (x, s) -> x.children(s), NO_SLOT);
        leavesAll(BAD, (x, s) -> x.children(s), 1, 5);
        says("STATE: it has no TRUANT");
        // it has four letters, too: STATE is named first
        diagonal(0, 1, 2, 4, 8);
        leaves(STATE, x -> x.children(0));
        says("FULL: it has four letters");
        diagonal(0, 1, 2, 5, 5);
        leaves(FULL, x -> x.children(0));
        diagonal(0, 1, 2, 5);
        leaves(393, x -> x.children(0));
    }

    private static void child() {
        says("BAD: slot, no such slot to");
        does(1, x -> x.single(0, 1));
        leavesAll(BAD, (x, s) -> x.child(s, 0, 0), NO_SLOT);
        leavesAll(BAD, (x, s) -> x.child(s, 0, 0), 1, 5);
        leavesAll(BAD, (x, to) -> x.child(0, 0, to), NO_SLOT);
        does(1, x -> x.child(0, 0, 5));
        does(2, x -> x.child(0, 1, 0));
        holds(0, 1, 0, 2);
        says("STATE");
        diagonal(0, 1, 2, 4, 8);
        leavesAll(STATE, (x, k) -> x.child(0, k, 1), 0, -1, MIN, MAX);
        says("FULL (as of children())");
        diagonal(0, 1, 2, 5, 5);
        leavesAll(FULL, (x, k) -> x.child(0, k, 1), 0, -1, MIN, MAX);
        says("NONE: there is none such");
        does(1, x -> x.single(0, 1));
        leavesAll(NONE, (x, k) -> x.child(0, k, 1), -1, 3, MIN, MAX);
        does(1, x -> x.child(0, 0, 1));
        holds(1, 1, 1, 2);
        does(1, x -> x.child(0, 2, 1));
        holds(1, 1, -1, 2);
        diagonal(0, 1, 2, 5);
        leavesAll(NONE, (x, k) -> x.child(0, k, 1), -1, 393);
        now.form(2, WIDE_BOX);
        leavesAll(NONE, (x, k) -> x.child(2, k, 1), -1, 0);
    }

    private static void next() {
        says("Of the CHILDREN k .. k + 63 of SLOT s, as far as there are");
        diagonal(0, 1, 2, 5);
        int[][] spans = {{0, 64}, {1, 64}, {329, 64}, {330, 63}, {392, 1}, {393, 0}, {394, 0}, {MAX - 63, 0}, {MAX - 62, 0}, {MAX, 0}};
        for (int[] span : spans) {
            leaves(span[1], x -> x.next(0, span[0], 0));
        }
        does(1, x -> x.single(1, 1));
        leaves(3, x -> x.next(1, 0, 0));
        leaves(1, x -> x.next(1, 2, 0));
        leaves(0, x -> x.next(1, 3, 0));
        says("2 the greatest number of RULE 0 that is not TAKEN by one (0: none)");
        // by x x + 2 y y + 4 z z all children take all, and so do those that are not there
        diagonal(0, 1, 2, 4);
        leaves(0, x -> x.next(0, 0, 2));
        leaves(64, x -> x.next(0, 0, 1));
        leaves(0, x -> x.next(0, 0, 3));
        does(1, x -> x.single(1, 1));
        leaves(15, x -> x.next(1, 0, 2));
        leaves(0, x -> x.next(1, 0, 1));
        leaves(0, x -> x.next(1, 3, 2));
        says("3 the number of the first whose CLAIM of RULE 0 holds (-2: none)");
        diagonal(0, 1, 2, 10);
        leaves(3, x -> x.next(0, 0, 3));
        leaves(3, x -> x.next(0, 3, 3));
        leaves(67, x -> x.next(0, 64, 3));
        does(1, x -> x.single(1, 1));
        leaves(-2, x -> x.next(1, 0, 3));
        leaves(-2, x -> x.next(1, MAX, 3));
        leaves(0, x -> x.next(1, MAX, 1));
        leaves(0, x -> x.next(1, MAX, 2));
        says("BAD: slot, k below 0, what");
        does(1, x -> x.single(0, 1));
        leavesAll(BAD, (x, s) -> x.next(s, 0, 0), NO_SLOT);
        leavesAll(BAD, (x, s) -> x.next(s, 0, 0), 1, 5);
        leavesAll(BAD, (x, k) -> x.next(0, k, 0), -1, -64, MIN);
        leavesAll(BAD, (x, what) -> x.next(0, 0, what), -1, 4, MIN, MAX);
        says("STATE");
        diagonal(0, 1, 2, 4, 8);
        leavesAll(STATE, (x, what) -> x.next(0, 0, what), 0, 1, 2, 3);
        leaves(BAD, x -> x.next(0, -1, 0));
        leaves(BAD, x -> x.next(0, 0, 4));
        says("FULL");
        diagonal(0, 1, 2, 5, 5);
        leavesAll(FULL, (x, what) -> x.next(0, 0, what), 0, 1, 2, 3);
        leaves(BAD, x -> x.next(0, -1, 0));
        leaves(BAD, x -> x.next(0, 0, 4));
    }

    // ---- the tree

    private static void plant() {
        says("THE TREE has one NODE, with the FORM of SLOT s: how many it had");
        does(1, x -> x.single(0, 1));
        does(0, x -> x.plant(0));
        leaves(1, x -> x.plant(0));
        for (int node = 1; node < 30; node++) {
            int number = node;
            does(node, x -> x.branch(0, number % 3));
        }
        diagonal(5, 1, 2);
        does(30, x -> x.plant(5));
        leaves(1, x -> x.count(1));
        leaves(2, x -> x.ofNode(0, 1));
        leaves(-2, x -> x.ofNode(0, 0));
        leaves(BAD, x -> x.ofNode(1, 0));
        says("BAD");
        does(1, x -> x.single(0, 1));
        leavesAll(BAD, (x, s) -> x.plant(s), NO_SLOT);
        leavesAll(BAD, (x, s) -> x.plant(s), 1, 5);
        does(0, x -> x.plant(0));
        leavesAll(BAD, (x, s) -> x.plant(s), NO_SLOT);
        leavesAll(BAD, (x, s) -> x.plant(s), 1, 5);
    }

    private static void branch() {
        says("BAD: node");
        leavesAll(BAD, (x, node) -> x.branch(node, 0), 0, -1, MIN, MAX);
        does(1, x -> x.single(0, 1));
        does(0, x -> x.plant(0));
        leavesAll(BAD, (x, node) -> x.branch(node, 0), 1, -1, 29, 30, MIN, MAX);
        says("STATE: its FORM has no TRUANT");
        diagonal(0, 1, 2, 4, 8);
        does(0, x -> x.plant(0));
        leavesAll(STATE, (x, k) -> x.branch(0, k), 0, -1, MIN, MAX);
        says("FULL: it has four letters, or there are 30 NODES");
        diagonal(0, 1, 2, 5, 5);
        does(0, x -> x.plant(0));
        leavesAll(FULL, (x, k) -> x.branch(0, k), 0, -1, MIN, MAX);
        diagonal(0, 1, 2, 4);
        does(1, x -> x.plant(0));
        for (int node = 1; node < 29; node++) {
            int number = node;
            does(node, x -> x.branch(0, number));
        }
        leavesAll(NONE, (x, k) -> x.branch(0, k), -1, MAX);
        does(29, x -> x.branch(0, 0));
        leavesAll(FULL, (x, k) -> x.branch(0, k), 0, -1, MIN, MAX);
        // a node without a truant: STATE is named first, and BAD ahead of it
        leaves(STATE, x -> x.branch(29, 0));
        leaves(BAD, x -> x.branch(30, 0));
        leaves(BAD, x -> x.branch(-1, 0));
        says("NONE: there is no child k");
        does(1, x -> x.single(0, 1));
        does(0, x -> x.plant(0));
        leavesAll(NONE, (x, k) -> x.branch(0, k), -1, 3, MIN, MAX);
        does(1, x -> x.branch(0, 0));
        does(2, x -> x.branch(0, 2));
        now.form(1, WIDE_BOX);
        does(3, x -> x.plant(1));
        leavesAll(NONE, (x, k) -> x.branch(0, k), 0, -1, MIN, MAX);
    }

    private static void ofNode() {
        says("what 0 that which it is under (-2: none)");
        smallTree();
        nodesAre(0, -2, 0, 0, 1, 2);
        says("1 how many letters");
        smallTree();
        nodesAre(1, 1, 2, 2, 3, 3);
        says("2 TRUANT (0: none)");
        smallTree();
        nodesAre(2, 2, 3, 5, 6, 14);
        diagonal(0, 1, 2, 4, 8);
        does(5, x -> x.plant(0));
        leaves(0, x -> x.ofNode(0, 2));
        says("3 how many NODES are under it");
        smallTree();
        nodesAre(3, 2, 1, 1, 0, 0);
        says("4 HEIGHT");
        smallTree();
        nodesAre(4, 2, 1, 1, 0, 0);
        says("5 how many LEAVES");
        smallTree();
        nodesAre(5, 2, 1, 1, 1, 1);
        says("6 of how many NODES of it and all below it the CLAIM of RULE 0 holds");
        smallTree();
        nodesAre(6, 0, 0, 0, 0, 0);
        does(5, x -> x.branch(4, 20));
        does(6, x -> x.branch(4, 0));
        nodesAre(6, 2, 0, 2, 0, 2, 1, 1);
        says("7 which child it is of that above it (-2: it is NODE 0)");
        smallTree();
        nodesAre(7, -2, 0, 1, 4, 5);
        says("8 DET");
        smallTree();
        nodesAre(8, 1, 1, 2, 3, 8);
        says("BAD");
        leavesAll(BAD, (x, what) -> x.ofNode(0, what), 0, 8);
        smallTree();
        leavesAll(BAD, (x, node) -> x.ofNode(node, 0), -1, 5, 29, 30, MIN, MAX);
        leavesAll(BAD, (x, what) -> x.ofNode(0, what), -1, 9, MIN, MAX);
        leavesAll(BAD, (x, what) -> x.ofNode(4, what), -1, 9, MIN, MAX);
    }

    /** 1 and 2 are under 0, 3 under 1, 4 under 2. */
    private static void smallTree() {
        does(1, x -> x.single(0, 1));
        does(0, x -> x.plant(0));
        does(1, x -> x.branch(0, 0));
        does(2, x -> x.branch(0, 1));
        does(3, x -> x.branch(1, 4));
        does(4, x -> x.branch(2, 5));
    }

    private static void nodeTo() {
        says("BAD: node, no such slot");
        leavesAll(BAD, (x, node) -> x.nodeTo(node, 0), 0, -1, MIN, MAX);
        smallTree();
        does(1, x -> x.nodeTo(0, 5));
        does(8, x -> x.nodeTo(4, 1));
        holds(5, 1);
        holds(1, 1, 0, 2, 1, 0, 5);
        leavesAll(BAD, (x, node) -> x.nodeTo(node, 0), -1, 5, MIN, MAX);
        leavesAll(BAD, (x, s) -> x.nodeTo(0, s), NO_SLOT);
    }

    private static void walk() {
        says("NONE: there is none such");
        leavesAll(NONE, (x, i) -> x.walk(i), 0, -1, MIN, MAX);
        smallTree();
        walksSo(0, 1, 3, 2, 4);
        does(5, x -> x.branch(0, 2));
        does(6, x -> x.branch(1, 0));
        walksSo(0, 1, 3, 6, 2, 4, 5);
    }

    private static void cut() {
        says("A NODE, all below it, are gone; the others keep their order and are numbered anew: how many are left");
        // the last, one in the midst with one below it, and the first with all
        smallTree();
        does(4, x -> x.cut(4));
        leaves(BAD, x -> x.ofNode(4, 0));
        nodesAre(7, -2, 0, 1, 4);
        does(4, x -> x.branch(2, 5));
        does(3, x -> x.cut(1));
        nodesAre(0, -2, 0, 1);
        nodesAre(7, -2, 1, 5);
        nodesAre(8, 1, 2, 8);
        walksSo(0, 1, 2);
        does(0, x -> x.cut(0));
        leaves(0, x -> x.count(1));
        walksSo();
        does(0, x -> x.plant(0));
        says("BAD");
        leavesAll(BAD, (x, node) -> x.cut(node), 0, -1, 1, MIN, MAX);
        smallTree();
        leavesAll(BAD, (x, node) -> x.cut(node), -1, 5, 29, 30, MIN, MAX);
    }

    // ---- sheets, what is kept

    private static void sheet() {
        says("A SHEET becomes a row of n numbers of a sort, all 0, or missing (sort -1: n doesn't matter): 1");
        does(1, x -> x.sheet(0, 0, 40));
        now.carries(0, new int[40]);
        does(1, x -> x.cell(0, 39, 7));
        does(1, x -> x.cell(0, 0, 7));
        does(1, x -> x.sheet(0, 1, 40));
        now.carries(0, new int[40]);
        does(1, x -> x.sheet(0, 1, 0));
        now.carries(0);
        leaves(1, x -> x.count(2));
        leaves(OUTSIDE, x -> x.cell(0, 0, 1));
        for (int n : new int[] {0, -1, 40, 41, MIN, MAX}) {
            does(1, x -> x.sheet(0, 1, 1));
            does(1, x -> x.sheet(0, -1, n));
            leaves(NOTHING, x -> x.cell(0, 0, 1));
            leaves(1, x -> x.sheet(0, -1, n));
        }
        // what it had does not come back with more numbers
        does(1, x -> x.sheet(0, 1, 40));
        does(1, x -> x.cell(0, 39, 7));
        does(1, x -> x.sheet(0, 1, 1));
        does(1, x -> x.sheet(0, 1, 40));
        now.carries(0, new int[40]);
        says("BAD: sheet, sort (-1 .. 1), n above 40");
        now.row(0, 5, 6);
        leavesAll(BAD, (x, sheet) -> x.sheet(sheet, 0, 1), NO_SHEET);
        leavesAll(BAD, (x, sheet) -> x.sheet(sheet, -1, 1), NO_SHEET);
        leavesAll(BAD, (x, sort) -> x.sheet(0, sort, 1), -2, 2, MIN, MAX);
        leavesAll(BAD, (x, sort) -> x.sheet(0, sort, -1), -2, 2, MIN, MAX);
        leavesAll(BAD, (x, n) -> x.sheet(0, 0, n), 41, MAX);
        leavesAll(BAD, (x, n) -> x.sheet(0, 1, n), 41, MAX);
        says("SIZE");
        now.row(0, 5, 6);
        leavesAll(SIZE, (x, n) -> x.sheet(0, 0, n), -1, MIN);
        leavesAll(SIZE, (x, n) -> x.sheet(0, 1, n), -1, MIN);
    }

    private static void cell() {
        says("Number i of a SHEET becomes v (in bytes its lowest 8 bits): 1");
        does(1, x -> x.sheet(0, 0, 40));
        does(1, x -> x.sheet(3, 1, 40));
        int[][] pairs = {{0, 0}, {127, 127}, {128, -128}, {255, -1}, {256, 0}, {-1, -1}, {-128, -128}, {-129, 127}, {-256, 0},
            {MIN, 0}, {MAX, -1}};
        for (int[] pair : pairs) {
            for (int place : new int[] {0, 39}) {
                does(1, x -> x.cell(0, place, pair[0]));
                leaves(pair[1], x -> x.item(0, place));
                does(1, x -> x.cell(3, place, pair[0]));
                leaves(pair[0], x -> x.item(3, place));
            }
        }
        says("BAD: sheet");
        does(1, x -> x.sheet(0, 0, 40));
        leavesAll(BAD, (x, sheet) -> x.cell(sheet, 0, 1), NO_SHEET);
        says("NOTHING");
        leavesAll(NOTHING, (x, sheet) -> x.cell(sheet, 0, 1), 0, 1, 2, 3);
        leavesAll(NOTHING, (x, i) -> x.cell(0, i, 1), -1, 40, MIN, MAX);
        says("OUTSIDE");
        now.row(0, 5, 6);
        does(1, x -> x.sheet(1, 0, 0));
        does(1, x -> x.sheet(2, 0, 40));
        leavesAll(OUTSIDE, (x, i) -> x.cell(0, i, 1), -1, 2, 39, 40, MIN, MAX);
        leavesAll(OUTSIDE, (x, i) -> x.cell(1, i, 1), -1, 0, 1, MIN, MAX);
        leavesAll(OUTSIDE, (x, i) -> x.cell(2, i, 1), -1, 40, MIN, MAX);
    }

    private static void item() {
        says("-9223372036854775808: sheet, it is missing, there is none such");
        now.row(0, MIN, MAX);
        does(1, x -> x.sheet(1, 0, 0));
        leaves(MIN, x -> x.item(0, 0));
        leaves(MAX, x -> x.item(0, 1));
        leavesAll(Scene.NO_ITEM, (x, sheet) -> x.item(sheet, 0), NO_SHEET);
        leavesAll(Scene.NO_ITEM, (x, sheet) -> x.item(sheet, 0), 1, 2, 3);
        leavesAll(Scene.NO_ITEM, (x, i) -> x.item(0, i), -1, 2, 39, 40, MIN, MAX);
    }

    private static void move() {
        says("n numbers of a SHEET, from number i on, come to another one (or the same), from its number j on, as they all were: n");
        now.row(0, 1, 2, 3, 4, 5);
        does(4, x -> x.move(0, 0, 0, 1, 4));
        now.carries(0, 1, 1, 2, 3, 4);
        does(4, x -> x.move(0, 1, 0, 0, 4));
        now.carries(0, 1, 2, 3, 4, 4);
        leaves(5, x -> x.move(0, 0, 0, 0, 5));
        now.row(1, 6, 7, 8);
        does(3, x -> x.move(1, 0, 0, 2, 3));
        now.carries(0, 1, 2, 6, 7, 8);
        now.carries(1, 6, 7, 8);
        does(1, x -> x.sheet(2, 0, 40));
        does(1, x -> x.sheet(3, 0, 40));
        for (int i = 0; i < 40; i++) {
            int place = i;
            does(1, x -> x.cell(2, place, place - 20));
        }
        does(40, x -> x.move(2, 0, 3, 0, 40));
        leaves(-20, x -> x.item(3, 0));
        leaves(19, x -> x.item(3, 39));
        says("BAD: sheets");
        now.row(0, 1, 2, 3);
        leavesAll(BAD, (x, sheet) -> x.move(sheet, 0, 0, 0, 1), NO_SHEET);
        leavesAll(BAD, (x, sheet) -> x.move(0, 0, sheet, 0, 1), NO_SHEET);
        leavesAll(BAD, (x, sheet) -> x.move(1, 0, sheet, 0, 1), NO_SHEET);
        says("NOTHING: one is missing");
        now.row(0, 1, 2, 3);
        leavesAll(NOTHING, (x, sheet) -> x.move(sheet, 0, 0, 0, 1), 1, 2, 3);
        leavesAll(NOTHING, (x, sheet) -> x.move(0, 0, sheet, 0, 1), 1, 2, 3);
        leavesAll(NOTHING, (x, sheet) -> x.move(sheet, 0, sheet, 0, 0), 1, 2, 3);
        says("SORT");
        now.row(0, 1, 2, 3);
        does(1, x -> x.sheet(1, 0, 3));
        leaves(SORT, x -> x.move(0, 0, 1, 0, 1));
        leaves(SORT, x -> x.move(1, 0, 0, 0, 1));
        leaves(SORT, x -> x.move(1, 0, 0, 0, 0));
        leaves(SORT, x -> x.move(1, -1, 0, 9, MAX));
        says("OUTSIDE: n, i, j below 0, or beyond either's end");
        now.row(0, 1, 2, 3, 4, 5);
        now.row(1, 6, 7, 8);
        does(1, x -> x.sheet(2, 1, 0));
        leavesAll(OUTSIDE, (x, n) -> x.move(0, 0, 1, 0, n), -1, 4, 5, 6, MIN, MAX);
        leavesAll(OUTSIDE, (x, n) -> x.move(1, 0, 0, 0, n), -1, 4, 5, 6, MIN, MAX);
        leavesAll(OUTSIDE, (x, i) -> x.move(0, i, 1, 0, 1), -1, 5, MIN, MAX);
        leavesAll(OUTSIDE, (x, j) -> x.move(0, 0, 1, j, 1), -1, 3, MIN, MAX);
        leavesAll(OUTSIDE, (x, i) -> x.move(0, i, 1, 0, 0), -1, 6, MIN, MAX);
        leavesAll(OUTSIDE, (x, j) -> x.move(0, 0, 1, j, 0), -1, 4, MIN, MAX);
        leaves(OUTSIDE, x -> x.move(0, MAX, 1, MAX, MAX));
        leaves(OUTSIDE, x -> x.move(0, MIN, 1, MIN, MIN));
        leaves(OUTSIDE, x -> x.move(0, 1, 1, 1, MAX));
        leaves(OUTSIDE, x -> x.move(0, 0, 2, 0, 1));
        leaves(OUTSIDE, x -> x.move(2, 0, 0, 0, 1));
        leaves(OUTSIDE, x -> x.move(0, 3, 1, 0, 3));
        leaves(OUTSIDE, x -> x.move(0, 0, 1, 1, 3));
        // no numbers at all come from an end to an end
        leaves(0, x -> x.move(0, 5, 1, 3, 0));
        leaves(0, x -> x.move(2, 0, 2, 0, 0));
        does(3, x -> x.move(0, 2, 1, 0, 3));
        now.carries(1, 3, 4, 5);
        does(1, x -> x.move(0, 0, 1, 2, 1));
        now.carries(1, 3, 4, 1);
    }

    private static void keep() {
        says("What SLOTS hold, and THE TREE, is kept, in place of what was ahead: how many SLOTS hold a FORM");
        does(0, x -> x.keep());
        leaves(1, x -> x.count(3));
        smallTree();
        for (int s = 1; s < 6; s++) {
            int slot = s;
            does(s + 1, x -> x.single(slot, slot + 1));
        }
        does(6, x -> x.keep());
        for (int s = 0; s < 6; s++) {
            int slot = s;
            does(1, x -> x.clear(slot));
        }
        does(0, x -> x.cut(0));
        does(6, x -> x.back());
        leaves(5, x -> x.count(1));
        holds(5, 6);
        // what is empty is kept, too
        does(1, x -> x.clear(5));
        does(0, x -> x.cut(0));
        does(5, x -> x.keep());
        does(9, x -> x.single(5, 9));
        does(0, x -> x.plant(5));
        does(5, x -> x.back());
        leaves(0, x -> x.of(5, 0));
        leaves(0, x -> x.count(1));
    }

    private static void back() {
        says("All that is as it was kept (it stays kept): how many SLOTS hold a FORM");
        smallTree();
        now.row(0, 1, 2);
        does(1, x -> x.keep());
        leaves(1, x -> x.back());
        for (int i = 0; i < 3; i++) {
            does(9, x -> x.single(0, 9));
            does(9, x -> x.single(5, 9));
            does(1, x -> x.cut(1) == 3 ? x.cut(1) : 99);
            does(1, x -> x.branch(0, 2));
            does(1, x -> x.back());
            holds(0, 1);
            leaves(0, x -> x.of(5, 0));
            walksSo(0, 1, 3, 2, 4);
            nodesAre(7, -2, 0, 1, 4, 5);
        }
        // sheets are none of it
        does(1, x -> x.cell(0, 1, 7));
        does(1, x -> x.sheet(1, 0, 1));
        leaves(1, x -> x.back());
        now.carries(0, 1, 7);
        now.carries(1, 0);
        says("NONE: nothing is kept");
        leaves(NONE, x -> x.back());
        smallTree();
        now.row(0, 1, 2);
        leaves(NONE, x -> x.back());
        leaves(0, x -> x.count(3));
        does(1, x -> x.keep());
        leaves(1, x -> x.back());
    }

    private static void count() {
        says("What 0 SLOTS that hold a FORM, 1 NODES of THE TREE, 2 SHEETS that aren't missing, 3 1 if something is kept, else 0");
        for (int s = 0; s < 6; s++) {
            int slot = s;
            does(1, x -> x.single(slot, 1));
            leaves(s + 1, x -> x.count(0));
        }
        does(0, x -> x.plant(0));
        for (int node = 1; node < 30; node++) {
            does(node, x -> x.branch(0, 0));
            does(node + 1, x -> x.count(1));
        }
        for (int sheet = 0; sheet < 4; sheet++) {
            int which = sheet;
            does(1, x -> x.sheet(which, 0, 0));
            leaves(sheet + 1, x -> x.count(2));
        }
        leaves(0, x -> x.count(3));
        does(6, x -> x.keep());
        leaves(1, x -> x.count(3));
        does(1, x -> x.clear(3));
        does(29, x -> x.cut(1));
        does(1, x -> x.sheet(2, -1, 0));
        leaves(5, x -> x.count(0));
        leaves(29, x -> x.count(1));
        leaves(3, x -> x.count(2));
        leaves(1, x -> x.count(3));
        says("BAD");
        leavesAll(BAD, (x, what) -> x.count(what), -1, 4, MIN, MAX);
    }
}
