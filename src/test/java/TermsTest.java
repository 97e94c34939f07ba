/**
 * The sentences of the document's 'Terms' that bound something, each by its own words: the last that is let in and the
 * first that is not, the empty thing and the full one.
 */
public final class TermsTest extends Bounds {
    public static void main(String[] args) throws Exception {
        promise(0);
        termsOfForms();
        lawful();
        slots();
        termsOfNumbers();
        termsOfChildren();
        termsOfReduction();
        termsOfSheets();
        wordsAreTheDocuments(0, 0);
        Scene.end("the bounds of the terms are the document's");
    }

    private static void termsOfForms() {
        says("A FORM of n letters (n 1 .. 4)");
        now.row(0, 1, 0, 1, 0, 0, 1, 0, 0, 0, 1, 0, 0, 0, 0, 1);
        leavesAll(BAD, (x, n) -> x.form(0, 0, 0, n), 0, 5, -1, MIN, MAX);
        for (int n = 1; n <= 4; n++) {
            int letters = n;
            does(n, x -> x.form(letters, 0, 0, letters));
            leaves(n, x -> x.of(letters, 0));
        }
        does(4, x -> x.join(1, 3, 5));
        leaves(FULL, x -> x.join(1, 4, 5));
        leaves(FULL, x -> x.join(4, 1, 5));
        leaves(FULL, x -> x.join(2, 3, 5));

        says("whole numbers, -99 .. 99");
        now.form(0, 99);
        now.noForm(BAD, 100);
        now.noForm(UNFIT, -99);
        now.noForm(BAD, -100);
        // next to 99 and 99 an entry of 98 is the greatest that is lawful, and 99 is still an entry
        now.form(1, 99, 98, 99);
        now.form(2, 99, -98, 99);
        now.noForm(UNFIT, 99, 99, 99);
        now.noForm(UNFIT, 99, -99, 99);
        now.noForm(BAD, 99, 100, 99);
        now.noForm(BAD, 99, -100, 99);
        now.noForm(BAD, 1, 0, 1, 0, 0, 1, 0, 0, 0, 100);
        now.noForm(BAD, MIN);
        now.noForm(BAD, MAX);

        says("MINOR k (k 0 .. n): the determinant of the entries with i, j below k (of none: 1)");
        now.form(0, 7, 2, 5, 1, 1, 4, 0, 1, 2, 3);
        leaves(1, x -> x.minor(0, 0));
        leaves(7, x -> x.minor(0, 1));
        leaves(31, x -> x.minor(0, 2));
        leaves(31 * 4 - 7 - 5 + 2 * 2, x -> x.minor(0, 3));
        leaves(determinant(0, 7, 2, 5, 1, 1, 4, 0, 1, 2, 3), x -> x.minor(0, 4));
        leavesAll(BAD, (x, k) -> x.minor(0, k), -1, 5, MIN, MAX);

        says("REST i: the determinant of the entries without those of row i and column i (of none: 1)");
        says("m_i being the greatest whole m such that m m DET is 100 times REST i or less");
        // of one letter m m a is 100 or less: 10 by 1, 5 by 4 and by 3, 2 by 25, but 1 by 26
        int[][] boxes = {{1, 21}, {2, 15}, {3, 11}, {4, 11}, {5, 9}, {6, 9}, {7, 7}, {11, 7}, {12, 5}, {25, 5}, {26, 3}, {99, 3}};
        for (int[] pair : boxes) {
            does(pair[0], x -> x.single(0, pair[0]));
            leaves(pair[1], x -> x.of(0, 2));
        }
        // m m 18 is 100 or less, and m m 18 is 9900 or less
        now.form(1, 99, 9, 1);
        leaves(5 * 47, x -> x.of(1, 2));
        // m m 1 is 2600 or less, and m m 1 is 100 or less
        now.form(1, 1, 5, 26);
        leaves(101 * 21, x -> x.of(1, 2));
    }

    private static void lawful() {
        says("The FORM is LAWFUL, if MINORS 1 .. n are above 0");
        // each of the minors in turn is 1, 0 and below 0, with all ahead of it above 0
        now.form(0, 1);
        now.noForm(UNFIT, 0);
        now.noForm(UNFIT, -1);
        now.form(0, 5, 2, 1);
        now.noForm(UNFIT, 4, 2, 1);
        now.noForm(UNFIT, 3, 2, 1);
        now.form(0, 2, 1, 2, 1, 0, 1);
        now.noForm(UNFIT, 2, 1, 2, 1, -1, 2);
        now.noForm(UNFIT, 2, 1, 2, 1, -1, 1);
        now.form(0, 1, 0, 1, 0, 0, 1, 1, 1, 1, 4);
        now.noForm(UNFIT, 1, 0, 1, 0, 0, 1, 1, 1, 1, 3);
        now.noForm(UNFIT, 1, 0, 1, 0, 0, 1, 1, 1, 1, 2);
        // DET is above 0, but a minor ahead of it is not
        now.noForm(UNFIT, -1, 0, -1);
        now.noForm(UNFIT, 0, 0, 1);
        now.noForm(UNFIT, 1, 2, 1, 0, 0, -1);
        now.noForm(UNFIT, -1, 0, -1, 0, 0, 1);
        now.noForm(UNFIT, 1, 1, 1, 0, 1, 1);
        now.noForm(UNFIT, 1, 0, -1, 0, 0, -1);
        now.noForm(UNFIT, 1, 0, 1, 0, 0, -1, 0, 0, 0, -1);

        // a BOX is a product of odd numbers: 999999, never 1000000; 1000001 and 1000003 are of no form
        says("its BOX is 1000000 at most");
        now.form(0, WIDE_BOX);
        leaves(999999, x -> x.of(0, 2));
        now.form(1, 11, 6, 30, 23, 10, 54, 3, 5, 12, 8);
        leaves(999999, x -> x.of(1, 2));
        now.form(2, 30, 18, 75, -18, -54, 41, 9, 27, -20, 10);
        leaves(999999, x -> x.of(2, 2));
        now.noForm(UNFIT, 37, 35, 65, 48, 63, 72);
        now.noForm(UNFIT, 1, -3, 12, 4, -13, 23, 5, -15, 16, 28);
        now.noForm(UNFIT, 46, -13, 12, -1, 6, 4, 0, -2, -1, 10);
    }

    private static void slots() {
        says("SLOTS 0 .. 5 each hold a LAWFUL FORM, or none (at first)");
        for (int s = 0; s < 6; s++) {
            int slot = s;
            leaves(0, x -> x.of(slot, 0));
            leaves(BAD, x -> x.truant(slot));
        }
        for (int s = 0; s < 6; s++) {
            int slot = s;
            does(s + 1, x -> x.single(slot, slot + 1));
            leaves(s + 1, x -> x.count(0));
        }
        for (int s = 0; s < 6; s++) {
            holds(s, s + 1);
        }
        leavesAll(BAD, (x, s) -> x.single(s, 1), NO_SLOT);
        leavesAll(BAD, (x, s) -> x.of(s, 0), NO_SLOT);

        says("A SLOT that holds none, where a FORM is asked for, is BAD");
        does(1, x -> x.single(0, 1));
        does(1, x -> x.sheet(0, 1, 40));
        Scene.Call[] calls = {
            x -> x.spread(5, 0, 0), x -> x.entry(5, 0, 0, 1), x -> x.minor(5, 0), x -> x.worth(5, 0, 0, 0, 0),
            x -> x.change(5, 0, 1, 1), x -> x.swap(5, 0, 0), x -> x.scale(5, 1), x -> x.join(5, 0, 1), x -> x.join(0, 5, 1),
            x -> x.reduce(5), x -> x.same(5, 0), x -> x.same(0, 5), x -> x.same(5, 5), x -> x.unlike(5, 0), x -> x.unlike(0, 5),
            x -> x.unlike(5, 5), x -> x.takes(5, 0), x -> x.truant(5), x -> x.exceptions(5, 1, 0), x -> x.exception(5, 0),
            x -> x.residues(5, 2), x -> x.barred(5, 0), x -> x.claim(5, 0), x -> x.lacks(5, 0, 0), x -> x.certify(5, 0, 0, 0),
            x -> x.children(5), x -> x.child(5, 0, 1), x -> x.next(5, 0, 0), x -> x.plant(5)};
        for (Scene.Call call : calls) {
            leaves(BAD, call);
        }
        // where a slot is only to hold a form, one that holds none is no fault
        leaves(0, x -> x.clear(5));
        does(2, x -> x.join(0, 0, 5));
        does(2, x -> x.clear(5));
        does(1, x -> x.child(0, 0, 5));

        says("Where they could be numbers of a VECTOR NO stands for all");
        does(1, x -> x.single(0, 1));
        leaves(NO, x -> x.vector(5, 0, 0));
        leaves(NO, x -> x.vector(0, 101, 0));
        leaves(NO, x -> x.vector(0, 1, 1));
        leaves(NO, x -> x.vector(0, 2, 0));
        leaves(NO, x -> x.at(5, 0, 0));
        // -1, which is BAD elsewhere, is a number here
        now.form(1, 2, 1, 1);
        first(1, 1, 1, -1);
        now.form(1, 2, -1, 1);
        leaves(-1, x -> x.at(1, 0, 1));
    }

    /** Of entries in the order of form(), by all products: far from how the class does it. */
    private static int determinant(int skip, int... entries) {
        int n = 4;
        int[][] a = new int[n][n];
        int place = 0;
        for (int i = 0; i < n; i++) {
            for (int j = 0; j <= i; j++) {
                a[i][j] = entries[place];
                a[j][i] = entries[place];
                place++;
            }
        }
        return expand(a, skip, 0);
    }

    private static int expand(int[][] a, int used, int i) {
        if (i == a.length) {
            return 1;
        }
        int sum = 0;
        int sign = 1;
        for (int j = 0; j < a.length; j++) {
            if ((used >> j & 1) == 0) {
                sum += sign * a[i][j] * expand(a, used | 1 << j, i + 1);
                sign = -sign;
            }
        }
        return sum;
    }

    private static void termsOfNumbers() {
        says("A number m (0 .. 100) is TAKEN by a FORM, if it is the WORTH of some VECTOR");
        diagonal(0, 1, 1, 1, 1);
        leaves(1, x -> x.takes(0, 0));
        leaves(744, x -> x.takes(0, 100));
        leavesAll(BAD, (x, m) -> x.takes(0, m), -1, 101, MIN, MAX);
        does(25, x -> x.single(1, 25));
        leaves(2, x -> x.takes(1, 100));
        leaves(0, x -> x.takes(1, 99));

        says("its COUNT: of how many (of 0: 1)");
        for (int n = 1; n <= 4; n++) {
            int[] squares = new int[n];
            java.util.Arrays.fill(squares, 99);
            diagonal(0, squares);
            leaves(1, x -> x.takes(0, 0));
            leaves(2 * n, x -> x.takes(0, 99));
            leaves(0, x -> x.takes(0, 100));
        }

        says("x being above y, if at the first place where they are unlike x has the greater number");
        diagonal(0, 1, 1);
        first(0, 0, 0, 0);
        first(0, 1, 1, 0);
        first(0, 5, 2, 1);
        first(0, 25, 5, 0);
        first(0, 50, 7, 1);
        // 1 by 2, -1 and 1, -1 and 1, 0 and ..: the greatest first number counts, whatever stands behind it
        now.form(1, 2, 3, 5);
        first(1, 1, 2, -1);
        now.form(1, 2, -3, 5);
        first(1, 1, 2, 1);

        says("TRUANT: the least of 1 .. 100 that is not TAKEN");
        does(2, x -> x.single(0, 2));
        leaves(1, x -> x.truant(0));
        diagonal(0, 1, 2, 5, 5);
        leaves(15, x -> x.truant(0));
        diagonal(0, 1, 2, 4, 8);
        leaves(NONE, x -> x.truant(0));

        says("EXCEPTIONS: all of 1 .. 100 that are not TAKEN, from the least up");
        does(99, x -> x.single(0, 99));
        leaves(99, x -> x.exceptions(0, 100, 0));
        leaves(1, x -> x.exception(0, 0));
        leaves(98, x -> x.exception(0, 97));
        leaves(100, x -> x.exception(0, 98));
        leaves(NONE, x -> x.exception(0, 99));
        now.form(0, 51, 0, 99);
        leaves(98, x -> x.exceptions(0, 100, 0));
        leaves(50, x -> x.exception(0, 49));
        leaves(52, x -> x.exception(0, 50));

        says("RESIDUES by M (2 .. 16): what remains (0 .. M - 1) of WORTHS by M");
        does(1, x -> x.single(0, 1));
        leaves(0b11, x -> x.residues(0, 2));
        leaves(1 | 1 << 1 | 1 << 4 | 1 << 9, x -> x.residues(0, 16));
        diagonal(0, 1, 1, 1, 1);
        leaves(0b11, x -> x.residues(0, 2));
        leaves(0xffff, x -> x.residues(0, 16));
        leavesAll(BAD, (x, m) -> x.residues(0, m), 1, 17, 0, -1, -2, MIN, MAX);

        says("A number is BARRED by the least M by which what remains of it is none of the RESIDUES by M");
        does(1, x -> x.single(0, 1));
        // 2 by 3 ahead of 4, 5, 8 and more; 3 by 4, 28 by 5, 364 by 16 alone; 1681 is a square
        leaves(3, x -> x.barred(0, 2));
        leaves(4, x -> x.barred(0, 3));
        leaves(5, x -> x.barred(0, 28));
        leaves(16, x -> x.barred(0, 364));
        leaves(NONE, x -> x.barred(0, 1681));
        does(2, x -> x.single(0, 2));
        leaves(2, x -> x.barred(0, 1));
        leaves(2, x -> x.barred(0, -1));
        leaves(NONE, x -> x.barred(0, 0));

        says("RULES: 0 ALL: 1, 2, 3, 5, 6, 7, 10, 14, 15; 1 ODD: 1, 3, 5, 7, 11, 15, 33; 2 PRIME: 2, 3, 5, 7, 11, 13, 17, 19, 23, 29, 31, 37, 41, 43, 47, 67, 73");
        int[][] rules = {
            {1, 2, 3, 5, 6, 7, 10, 14, 15},
            {1, 3, 5, 7, 11, 15, 33},
            {2, 3, 5, 7, 11, 13, 17, 19, 23, 29, 31, 37, 41, 43, 47, 67, 73}};
        for (int r = 0; r < 3; r++) {
            int rule = r;
            for (int i = 0; i < rules[r].length; i++) {
                int place = i;
                leaves(rules[r][i], x -> x.rule(rule, place));
            }
            leavesAll(NONE, (x, i) -> x.rule(rule, i), -1, rules[r].length);
        }
        leavesAll(BAD, (x, rule) -> x.rule(rule, 0), NO_RULE);

        says("A CLAIM holds, if all of its RULE's numbers are TAKEN");
        // of RULE 0 only the last number is lacking here, and there only the first
        diagonal(0, 1, 2, 5, 5);
        leaves(0, x -> x.claim(0, 0));
        leaves(15, x -> x.lacks(0, 0, 0));
        leaves(NONE, x -> x.lacks(0, 0, 1));
        diagonal(0, 2, 3, 4, 5);
        leaves(0, x -> x.claim(0, 0));
        leaves(1, x -> x.lacks(0, 0, 0));
        leaves(NONE, x -> x.lacks(0, 0, 1));
        diagonal(0, 1, 2, 4, 8);
        leaves(1, x -> x.claim(0, 0));
        leaves(NONE, x -> x.lacks(0, 0, 0));
    }

    private static void termsOfChildren() {
        says("CHILDREN of a FORM of n letters, n below 4, with a TRUANT t");
        does(1, x -> x.single(0, 1));
        leaves(3, x -> x.children(0));
        diagonal(1, 1, 1, 1);
        leaves(childrenOfThreeSquares(), x -> x.children(1));
        diagonal(2, 1, 2, 5, 5);
        leaves(FULL, x -> x.children(2));
        diagonal(3, 1, 2, 4, 8);
        leaves(STATE, x -> x.children(3));

        says("all LAWFUL FORMS of n + 1 letters with the same entries where i, j are below n, a_nn being t");
        // DET is 99 - r r: 18 by 9, and below 0 by 10
        does(99, x -> x.single(0, 99));
        leaves(19, x -> x.children(0));
        does(18, x -> x.child(0, 0, 1));
        holds(1, 99, 9, 1);
        does(18, x -> x.child(0, 18, 1));
        holds(1, 99, -9, 1);
        leavesAll(NONE, (x, k) -> x.child(0, k, 1), -1, 19, MIN, MAX);
        // t t is 4, so that a row of 2 would make DET 0
        does(4, x -> x.single(0, 4));
        leaves(3, x -> x.children(0));
        // no child is lawful: the BOX of each is too great
        now.form(2, WIDE_BOX);
        leaves(2, x -> x.truant(2));
        leaves(0, x -> x.children(2));
        leavesAll(NONE, (x, k) -> x.child(2, k, 1), 0, -1, 1, MIN, MAX);
        leaves(0, x -> x.next(2, 0, 0));
        leaves(0, x -> x.next(2, 0, 1));
        leaves(0, x -> x.next(2, 0, 2));
        leaves(-2, x -> x.next(2, 0, 3));

        says("of two the one with the greater number where these are unlike first stands ahead; numbered from 0 on");
        diagonal(0, 1, 1);
        int[][] rows = {{1, 1}, {1, 0}, {1, -1}, {0, 1}, {0, 0}, {0, -1}, {-1, 1}, {-1, 0}, {-1, -1}};
        for (int k = 0; k < rows.length; k++) {
            int which = k;
            does(3 - Math.abs(rows[k][0]) - Math.abs(rows[k][1]), x -> x.child(0, which, 1));
            holds(1, 1, 0, 1, rows[k][0], rows[k][1], 3);
        }
        leaves(NONE, x -> x.child(0, 9, 1));

        says("THE TREE has NODES 0, 1, .. (30 at most; none at first)");
        leaves(0, x -> x.count(1));
        leaves(BAD, x -> x.ofNode(0, 0));
        leaves(NONE, x -> x.walk(0));
        does(1, x -> x.single(0, 1));
        does(0, x -> x.plant(0));
        for (int node = 1; node < 30; node++) {
            int number = node;
            does(node, x -> x.branch(0, number % 3));
        }
        leaves(30, x -> x.count(1));
        leaves(FULL, x -> x.branch(0, 0));
        leaves(FULL, x -> x.branch(29, 0));
        leaves(29, x -> x.walk(29));
        leaves(NONE, x -> x.walk(30));
        leaves(BAD, x -> x.ofNode(30, 0));
        does(29, x -> x.cut(29));
        does(29, x -> x.branch(28, 0));
        leaves(FULL, x -> x.branch(0, 0));
        does(30, x -> x.plant(0));
        does(1, x -> x.branch(0, 0));

        says("each but NODE 0 is under another one, a child of its FORM");
        does(1, x -> x.single(0, 1));
        does(0, x -> x.plant(0));
        does(1, x -> x.branch(0, 0));
        does(2, x -> x.branch(1, 8));
        leaves(-2, x -> x.ofNode(0, 0));
        leaves(0, x -> x.ofNode(1, 0));
        leaves(1, x -> x.ofNode(2, 0));
        does(determinantOfThree(1, 1, 2, -1, -2, 3), x -> x.nodeTo(2, 1));
        holds(1, 1, 1, 2, -1, -2, 3);
        does(1, x -> x.nodeTo(1, 2));
        holds(2, 1, 1, 2);
        does(determinantOfThree(1, 1, 2, -1, -2, 3), x -> x.child(2, 8, 3));
        leaves(1, x -> x.same(1, 3));

        says("HEIGHT of a NODE: 0, if none is under it, else 1 more than the greatest of those under it");
        does(1, x -> x.single(0, 1));
        does(0, x -> x.plant(0));
        for (int node = 0; node < 3; node++) {
            int number = node;
            leaves(node, x -> x.ofNode(0, 4));
            does(node + 1, x -> x.branch(number, 0));
        }
        // a lower one that comes later, and then all that is high is gone
        leaves(3, x -> x.ofNode(0, 4));
        does(4, x -> x.branch(0, 1));
        leaves(3, x -> x.ofNode(0, 4));
        leaves(0, x -> x.ofNode(4, 4));
        does(2, x -> x.cut(1));
        leaves(1, x -> x.ofNode(0, 4));

        says("LEAVES of it: those NODES of it and of all below it that have none under them");
        does(1, x -> x.single(0, 1));
        does(0, x -> x.plant(0));
        leaves(1, x -> x.ofNode(0, 5));
        does(1, x -> x.branch(0, 0));
        leaves(1, x -> x.ofNode(0, 5));
        does(2, x -> x.branch(0, 0));
        leaves(2, x -> x.ofNode(0, 5));
        does(3, x -> x.branch(1, 0));
        leaves(2, x -> x.ofNode(0, 5));
        leaves(1, x -> x.ofNode(1, 5));
        leaves(1, x -> x.ofNode(3, 5));

        says("NODE 0, and behind each NODE those under it, each with all below it, in the order in which they came");
        does(1, x -> x.single(0, 1));
        does(0, x -> x.plant(0));
        leaves(0, x -> x.walk(0));
        leaves(NONE, x -> x.walk(1));
        int[] under = {0, 0, 1, 2, 1, 0, 3, 4};
        for (int i = 0; i < under.length; i++) {
            int number = i + 1;
            does(number, x -> x.branch(under[number - 1], 0));
        }
        walksSo(0, 1, 3, 7, 5, 2, 4, 8, 6);
    }

    /** Of three letters, in the order of form(). */
    private static int determinantOfThree(int a, int b, int c, int d, int e, int f) {
        return a * (c * f - e * e) - b * (b * f - e * d) + d * (b * e - c * d);
    }

    private static int childrenOfThreeSquares() {
        // by the truant 7 all rows keep it positive whose squares together are below 7
        int found = 0;
        for (int i = -3; i <= 3; i++) {
            for (int j = -3; j <= 3; j++) {
                for (int k = -3; k <= 3; k++) {
                    found += i * i + j * j + k * k < 7 ? 1 : 0;
                }
            }
        }
        return found;
    }

    private static void termsOfReduction() {
        says("such that 2 times a_ij without its sign is above a_jj");
        // 2 times 1 is 2, which is not above it; 2 times 2 is above 3
        now.form(0, 2, 1, 2);
        leaves(0, x -> x.reduce(0));
        now.form(0, 2, -1, 2);
        leaves(0, x -> x.reduce(0));
        now.form(0, 3, 2, 3);
        does(1, x -> x.reduce(0));
        holds(0, 2, -1, 3);
        now.form(0, 3, -2, 3);
        does(1, x -> x.reduce(0));
        holds(0, 2, 1, 3);
        leaves(0, x -> x.reduce(0));

        says("q is the whole number nearest to a_ij by a_jj (of two the one nearer to 0)");
        // 3 by 2, -3 by 2, 5 by 2: to 1, -1, 2
        now.form(0, 20, 3, 2);
        does(1, x -> x.reduce(0));
        holds(0, 16, 1, 2);
        now.form(0, 20, -3, 2);
        does(1, x -> x.reduce(0));
        holds(0, 16, -1, 2);
        now.form(0, 20, 5, 2);
        does(1, x -> x.reduce(0));
        holds(0, 8, 1, 2);
        // 5 by 3 and 4 by 3: to 2 and 1
        now.form(0, 20, 5, 3);
        does(1, x -> x.reduce(0));
        holds(0, 12, -1, 3);
        now.form(0, 20, 4, 3);
        does(1, x -> x.reduce(0));
        holds(0, 15, 1, 3);

        says("by the first i, j (by i, then by j; i is not j)");
        // letter 0 by letter 1 comes ahead of letter 0 by letter 2
        now.form(0, 9, 2, 3, 2, 0, 3);
        does(2, x -> x.reduce(0));
        holds(0, 7, -1, 3, -1, 0, 3);
        // letter 0 by letter 2 comes ahead of letter 1 by letter 2
        now.form(0, 9, 0, 9, 2, 2, 3);
        does(2, x -> x.reduce(0));
        holds(0, 8, -1, 8, -1, -1, 3);
    }

    private static void termsOfSheets() {
        says("SHEETS 0 .. 3 are rows of numbers, 40 at most, of sort 0 (bytes) or 1 (ints), or missing (at first)");
        for (int sheet = 0; sheet < 4; sheet++) {
            int which = sheet;
            leaves(NOTHING, x -> x.cell(which, 0, 1));
            leaves(Scene.NO_ITEM, x -> x.item(which, 0));
        }
        leaves(0, x -> x.count(2));
        for (int sheet = 0; sheet < 4; sheet++) {
            int which = sheet;
            does(1, x -> x.sheet(which, which % 2, 40));
            does(1, x -> x.cell(which, 39, 300));
            leaves(which % 2 == 0 ? 44 : 300, x -> x.item(which, 39));
            leaves(OUTSIDE, x -> x.cell(which, 40, 1));
            leaves(sheet + 1, x -> x.count(2));
        }
        leavesAll(BAD, (x, sheet) -> x.sheet(sheet, 0, 1), NO_SHEET);
        leavesAll(BAD, (x, sort) -> x.sheet(0, sort, 1), -2, 2, MIN, MAX);
        leavesAll(BAD, (x, n) -> x.sheet(0, 1, n), 41, MAX);

        says("LARGEST is 9223372036854775807");
        diagonal(0, 1, 1, 1, 1);
        leaves(Long.MAX_VALUE, x -> x.worth(0, MAX, MAX, 91810, 12683));
        leaves(Long.MAX_VALUE, x -> x.worth(0, -MAX, MAX, -91810, 12683));
        leaves(WIDE, x -> x.worth(0, MAX, MAX, 91810, 12684));
        // one above it
        leaves(WIDE, x -> x.worth(0, MIN, MIN, 0, 0));

        says("of several the one that is named first");
        // all that can be wrong with a call at once, then all but the first, and so on: RefusalTest has each two
        now.row(0, 100, 0, 0);
        leaves(BAD, x -> x.form(6, 4, -1, 5));
        leaves(BAD, x -> x.form(0, 1, -1, 5));
        leaves(NOTHING, x -> x.form(0, 1, -1, 1));
        leaves(OUTSIDE, x -> x.form(0, 0, 1, 2));
        leaves(BAD, x -> x.form(0, 0, 0, 2));
        leaves(UNFIT, x -> x.form(0, 0, 1, 1));

        says("A call that refuses changes nothing; what is only asked changes nothing, too");
        diagonal(0, 1, 2, 5);
        does(0, x -> x.plant(0));
        does(1, x -> x.keep());
        now.row(0, 1, 2, 3);
        leaves(OUTSIDE, x -> x.move(0, 0, 0, 1, 3));
        leaves(OUTSIDE, x -> x.spread(0, 0, 0));
        leaves(UNFIT, x -> x.entry(0, 2, 2, 0));
        leaves(UNFIT, x -> x.scale(0, 20));
        leaves(UNFIT, x -> x.change(0, 0, 2, 9));
        leaves(NONE, x -> x.child(0, 393, 0));
        leaves(NONE, x -> x.branch(0, 393));
        leaves(10, x -> x.truant(0));
        leaves(393, x -> x.children(0));
        leaves(64, x -> x.next(0, 0, 0));

        says("An object is used for at most 512 calls after it has been made");
        does(1, x -> x.single(0, 1));
        for (int i = 0; i < 255; i++) {
            does(i % 2 == 0 ? 2 : 1, x -> x.of(0, 0) == 1 ? x.join(0, 0, 0) : x.single(0, 1));
        }
        leaves(3, x -> x.truant(0));
    }
}
