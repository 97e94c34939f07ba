import java.util.Arrays;

/**
 * The sentences of the document that bound nothing but tell what a thing is and what a call does, each by its own words.
 * At the end the whole document is gone through: what no test names, here or in TermsTest and BoundaryTest, is a fault.
 */
public final class SentenceTest extends Bounds {
    private static final int[][] RULES = {
        {1, 2, 3, 5, 6, 7, 10, 14, 15},
        {1, 3, 5, 7, 11, 15, 33},
        {2, 3, 5, 7, 11, 13, 17, 19, 23, 29, 31, 37, 41, 43, 47, 67, 73}};

    /** A form with an entry of its own at each place, in the order of form(). */
    private static final int[] MIXED = {9, 1, 10, -2, 3, 11, 4, -1, 2, 12};

    public static void main(String[] args) throws Exception {
        promise(0);
        whatItIs();
        termsOfForms();
        termsOfNumbers();
        termsOfTheTree();
        termsOfReduction();
        termsOfRefusals();
        promise(2);
        single();
        promise(3);
        form();
        promise(4);
        spread();
        promise(5);
        clear();
        promise(6);
        entry();
        promise(7);
        at();
        promise(8);
        minor();
        promise(9);
        of();
        promise(14);
        join();
        promise(20);
        truant();
        promise(21);
        exceptions();
        promise(22);
        exception();
        promise(23);
        residues();
        promise(25);
        rule();
        promise(27);
        lacks();
        promise(28);
        certify();
        promise(29);
        children();
        promise(30);
        child();
        promise(31);
        next();
        promise(33);
        branch();
        promise(34);
        ofNode();
        promise(35);
        nodeTo();
        promise(36);
        walk();
        promise(40);
        item();
        wordsStand(0, 44);
        allWordsAreSaid(0, 44, "TermsTest", "BoundaryTest", "SentenceTest");
        Scene.end("each sentence of the document has a test, and holds");
    }

    // ---- what is reckoned here, far from how the class does it

    private static int[][] table(int... entries) {
        int n = 1;
        while (n * (n + 1) / 2 < entries.length) {
            n++;
        }
        int[][] a = new int[n][n];
        int place = 0;
        for (int i = 0; i < n; i++) {
            for (int j = 0; j <= i; j++) {
                a[i][j] = entries[place];
                a[j][i] = entries[place];
                place++;
            }
        }
        return a;
    }

    /** By all ways to take one entry of each row, each of another column. */
    private static long determinant(int[][] a, int rows) {
        return determinant(a, rows, 0, 0);
    }

    private static long determinant(int[][] a, int rows, int row, int used) {
        if (row == rows) {
            return 1;
        }
        long sum = 0;
        int sign = 1;
        for (int j = 0; j < rows; j++) {
            if ((used >> j & 1) == 0) {
                sum += sign * a[row][j] * determinant(a, rows, row + 1, used | 1 << j);
                sign = -sign;
            }
        }
        return sum;
    }

    private static int worth(int[][] a, int... x) {
        int sum = 0;
        for (int i = 0; i < a.length; i++) {
            for (int j = 0; j < a.length; j++) {
                sum += a[i][j] * x[i] * x[j];
            }
        }
        return sum;
    }

    /** Of three letters all vectors with numbers of -reach .. reach; the first of each worth up to 100, and how many. */
    private static int[][] countsAndFirsts(int[][] a, int reach) {
        int[][] found = new int[101][4];
        for (int x = reach; x >= -reach; x--) {
            for (int y = reach; y >= -reach; y--) {
                for (int z = reach; z >= -reach; z--) {
                    int m = worth(a, x, y, z);
                    if (m <= 100) {
                        if (found[m][0] == 0) {
                            found[m] = new int[] {0, x, y, z};
                        }
                        found[m][0]++;
                    }
                }
            }
        }
        return found;
    }

    // ---- what it is, and its terms

    private static void whatItIs() {
        says("Whole forms that are positive, and which numbers they take: the first that one lacks, its truant, is put on as one letter "
            + "more, in all ways that keep the form positive; so forms grow that lack less, as a tree of escalators, till some lack nothing.");
        does(1, x -> x.single(0, 1));
        int[] truants = {2, 5, 10, NONE};
        int[] ways = {1, 11, 196, 0};
        for (int letters = 1; letters <= 4; letters++) {
            int place = letters - 1;
            leaves(letters, x -> x.of(0, 0));
            leaves(truants[place], x -> x.truant(0));
            if (letters < 4) {
                leaves(1, x -> lacksLess(x, ways[place]));
                does(1, x -> x.child(0, ways[place], 0) > 0 ? 1 : 0);
            }
        }
        leaves(0, x -> x.exceptions(0, 100, 0));
        leaves(1, x -> x.claim(0, 0));

        free("what later calls answer is free.");

        says("Which numbers are taken, by how many vectors, by which first; exceptions, those that remainders bar already and the others; "
            + "rules, proved elsewhere, by which all numbers, all odd ones, all primes are taken as soon as some few are, with a "
            + "certificate for each claim.");
        // no sum of three squares: 7, 15, 23, .. are barred by 8, and 28, 60, 92 are the others
        diagonal(0, 1, 1, 1);
        leaves(15, x -> x.exceptions(0, 100, 0));
        leaves(12, x -> x.exceptions(0, 100, 1));
        for (int number : new int[] {28, 60, 92}) {
            leaves(0, x -> x.takes(0, number));
            leaves(NONE, x -> x.barred(0, number));
        }
        leaves(6, x -> x.takes(0, 1));
        leaves(30, x -> x.takes(0, 9));
        first(0, 9, 3, 0, 0);
        does(1, x -> x.sheet(0, 1, 40));
        for (int rule = 0; rule < 3; rule++) {
            int which = rule;
            leaves(STATE, x -> x.certify(0, which, 0, 0));
        }
    }

    /** The child takes what the form in slot 0 takes, and its truant, too. */
    private static int lacksLess(EscalatedForms x, int k) {
        x.child(0, k, 5);
        boolean less = x.takes(5, x.truant(0)) > 0 && x.exceptions(5, 100, 0) < x.exceptions(0, 100, 0);
        for (int m = 0; m <= 100; m++) {
            less &= x.takes(5, m) >= x.takes(0, m);
        }
        x.clear(5);
        return less ? 1 : 0;
    }

    private static void termsOfForms() {
        says("has entries a_ij (i, j 0 .. n - 1; a_ij is a_ji)");
        now.form(0, MIXED);
        int[][] a = table(MIXED);
        for (int i = -1; i <= 4; i++) {
            for (int j = -1; j <= 4; j++) {
                int row = i;
                int column = j;
                boolean isOne = i >= 0 && i < 4 && j >= 0 && j < 4;
                leaves(isOne ? a[i][j] : NO, x -> x.at(0, row, column));
            }
        }

        says("A VECTOR x has n whole numbers x_0 .. x_(n - 1); its WORTH: all a_ij x_i x_j (i and j each 0 .. n - 1) together");
        now.form(0, MIXED);
        int[][] vectors = {{0, 0, 0, 0}, {1, 0, 0, 0}, {0, 0, 0, 1}, {1, 1, 1, 1}, {1, -1, 1, -1}, {-3, 5, 7, -2}, {100, -99, 98, 97}};
        for (int[] v : vectors) {
            leaves(worth(a, v), x -> x.worth(0, v[0], v[1], v[2], v[3]));
            leaves(worth(a, v), x -> x.worth(0, -v[0], -v[1], -v[2], -v[3]));
        }
        // 9 + 10 and 2 times 1, as both a_01 and a_10 count
        leaves(21, x -> x.worth(0, 1, 1, 0, 0));

        says("DET: MINOR n");
        for (int n = 1; n <= 4; n++) {
            int letters = n;
            int[] entries = Arrays.copyOf(MIXED, n * (n + 1) / 2);
            now.form(0, entries);
            long det = determinant(table(entries), n);
            leaves(det, x -> x.minor(0, letters));
            leaves(det, x -> x.of(0, 1));
        }

        says("(all WORTHS but that of 0, 0, .. are above 0 then)");
        now.form(0, 2, -1, 2, 0, -1, 2);
        now.form(1, 5, 12, 31);
        leaves(0, x -> x.worth(0, 0, 0, 0, 0));
        leaves(0, x -> x.worth(1, 0, 0, MAX, MIN));
        leaves(1, x -> x.takes(0, 0));
        leaves(0, x -> leastWorth(x, 0) > 0 && leastWorth(x, 1) > 0 ? 0 : 1);

        says("all 2 m_i + 1, times one another");
        // of 1, 4 and 25 on the diagonal the greatest m are 10, 5 and 2
        diagonal(0, 1, 4, 25);
        leaves(21 * 11 * 5, x -> x.of(0, 2));
        diagonal(0, 26, 24, 99, 1);
        leaves(3 * 5 * 3 * 21, x -> x.of(0, 2));
        // DET is 11, the RESTS are 31 and 5: m m 11 is 3100 or 500 at most
        now.form(0, 5, 12, 31);
        leaves(33 * 13, x -> x.of(0, 2));
    }

    private static long leastWorth(EscalatedForms x, int s) {
        long least = Long.MAX_VALUE;
        for (int i = -6; i <= 6; i++) {
            for (int j = -6; j <= 6; j++) {
                for (int k = -6; k <= 6; k++) {
                    if (i != 0 || j != 0 || x.of(s, 0) > 2 && k != 0) {
                        least = Math.min(least, x.worth(s, i, j, k, 0));
                    }
                }
            }
        }
        return least;
    }

    private static void termsOfNumbers() {
        says("Its FIRST VECTOR: of these the one that is above all others");
        int[] entries = {3, -1, 4, 1, 2, 7};
        now.form(0, entries);
        int[][] found = countsAndFirsts(table(entries), 40);
        for (int m = 0; m <= 100; m++) {
            int number = m;
            leaves(found[m][0], x -> x.takes(0, number));
            for (int j = 0; j < 3; j++) {
                int place = j;
                leaves(found[m][0] == 0 ? NO : found[m][1 + j], x -> x.vector(0, number, place));
            }
        }

        says("(it is not TAKEN then)");
        now.form(0, 3, -1, 4, 1, 2, 7);
        diagonal(1, 1, 1, 1);
        diagonal(2, 3, 9);
        for (int s = 0; s < 3; s++) {
            int slot = s;
            leaves(0, x -> takenAlthoughBarred(x, slot));
        }

        says("(It is proved that a FORM by which all of a RULE's numbers are TAKEN takes every number above 0, every odd one, every prime.)");
        int[][] forms = {{1, 0, 2, 0, 0, 4, 0, 0, 0, 8}, {1, 0, 1, 0, 0, 2}, {1, 0, 2, 0, 0, 5, 0, 0, 0, 5}, {1, 0, 1, 0, 0, 1, 0, 0, 0, 7}};
        int[] claims = {7, 6, 4, 7};
        for (int i = 0; i < forms.length; i++) {
            now.form(0, forms[i]);
            for (int rule = 0; rule < 3; rule++) {
                int which = rule;
                boolean isClaimed = (claims[i] >> rule & 1) != 0;
                leaves(isClaimed ? 1 : 0, x -> x.claim(0, which));
                leaves(isClaimed ? 1 : 0, x -> takesAllOf(x, which));
            }
        }
    }

    private static int takenAlthoughBarred(EscalatedForms x, int s) {
        int both = 0;
        for (int m = 0; m <= 100; m++) {
            both += x.barred(s, m) != NONE && x.takes(s, m) != 0 ? 1 : 0;
        }
        return both;
    }

    /** As far as 100: all numbers, all odd ones, all primes. */
    private static int takesAllOf(EscalatedForms x, int rule) {
        for (int m = 1; m <= 100; m++) {
            boolean isMeant = rule == 0 || rule == 1 && m % 2 == 1 || rule == 2 && isPrime(m);
            if (isMeant && x.takes(0, m) == 0) {
                return 0;
            }
        }
        return 1;
    }

    private static boolean isPrime(int m) {
        for (int d = 2; d * d <= m; d++) {
            if (m % d == 0) {
                return false;
            }
        }
        return m > 1;
    }

    private static void termsOfTheTree() {
        says("by the row a_n0, .. a_n(n-1), in this order");
        // a_n0 counts first, although it stands first in the row, not last: all rows with 1 ahead of all with 0
        diagonal(0, 1, 2);
        int ahead = 0;
        for (int first = 2; first >= -2; first--) {
            for (int second = 3; second >= -3; second--) {
                int det = 10 - 2 * first * first - second * second;
                if (det > 0) {
                    int which = ahead;
                    int[] row = {first, second};
                    does(det, x -> x.child(0, which, 1));
                    holds(1, 1, 0, 2, row[0], row[1], 5);
                    ahead++;
                }
            }
        }
        leaves(ahead, x -> x.children(0));

        says("as they came, each with a FORM");
        does(1, x -> x.single(0, 1));
        does(0, x -> x.plant(0));
        does(1, x -> x.branch(0, 2));
        does(2, x -> x.branch(0, 0));
        does(3, x -> x.branch(0, 1));
        int[] crosses = {-1, 1, 0};
        for (int node = 1; node <= 3; node++) {
            int number = node;
            does(node == 3 ? 2 : 1, x -> x.nodeTo(number, 5));
            holds(5, 1, crosses[node - 1], 2);
        }

        says("The WALK of THE TREE:");
        does(1, x -> x.single(0, 1));
        does(0, x -> x.plant(0));
        does(1, x -> x.branch(0, 0));
        does(2, x -> x.branch(0, 1));
        does(3, x -> x.branch(1, 0));
        walksSo(0, 1, 3, 2);
    }

    private static void termsOfReduction() {
        says("REDUCTION of a FORM goes by STEPS, as long as there is one");
        int[][] forms = {MIXED, {14, 3, 1, 1, 0, 9}, {9, 22, 54, 2, 5, 1}, {20, 11, 7}, {27, 5, 82, 0, 9, 1}, {11, 6, 30, 23, 10, 54, 3, 5, 12, 8}};
        for (int[] entries : forms) {
            int[][] a = table(entries);
            int steps = 0;
            while (isStepped(a)) {
                steps++;
            }
            now.form(0, entries);
            does(steps, x -> x.reduce(0));
            holds(0, inOrder(a));
            leaves(0, x -> x.reduce(0));
        }

        says("and letter i is CHANGED by -q times letter j");
        // 7 by 3 is nearest to 2, and -7 to -2
        now.form(0, 20, 7, 3);
        now.form(1, 20, 7, 3);
        does(11, x -> x.change(1, 0, 1, -2));
        does(1, x -> x.reduce(0));
        leaves(1, x -> x.same(0, 1));
        now.form(0, 20, -7, 3);
        now.form(1, 20, -7, 3);
        does(11, x -> x.change(1, 0, 1, 2));
        does(1, x -> x.reduce(0));
        leaves(1, x -> x.same(0, 1));

        says("Letter i CHANGED by c times letter j: each a_ik and a_ki, k not i, becomes that and c times a_jk, a_ii becomes "
            + "a_ii + 2 c a_ij + c c a_jj");
        for (int i = 0; i < 4; i++) {
            for (int j = 0; j < 4; j++) {
                for (int c = -2; c <= 2; c++) {
                    if (i != j) {
                        changedLetter(i, j, c);
                    }
                }
            }
        }
    }

    private static void changedLetter(int i, int j, int c) {
        int[][] a = table(MIXED);
        change(a, i, j, c);
        now.form(0, MIXED);
        does(determinant(a, 4), x -> x.change(0, i, j, c));
        holds(0, inOrder(a));
    }

    private static void change(int[][] a, int i, int j, int c) {
        int[][] old = new int[a.length][];
        for (int k = 0; k < a.length; k++) {
            old[k] = a[k].clone();
        }
        for (int k = 0; k < a.length; k++) {
            if (k != i) {
                a[i][k] = old[i][k] + c * old[j][k];
                a[k][i] = old[k][i] + c * old[j][k];
            }
        }
        a[i][i] = old[i][i] + 2 * c * old[i][j] + c * c * old[j][j];
    }

    private static int[] inOrder(int[][] a) {
        int[] entries = new int[a.length * (a.length + 1) / 2];
        int place = 0;
        for (int i = 0; i < a.length; i++) {
            for (int j = 0; j <= i; j++) {
                entries[place++] = a[i][j];
            }
        }
        return entries;
    }

    private static boolean isStepped(int[][] a) {
        for (int i = 0; i < a.length; i++) {
            for (int j = 0; j < a.length; j++) {
                if (i != j && 2 * Math.abs(a[i][j]) > a[j][j]) {
                    // a half is as near to 0 as it goes: 0.5 below it is the least that is rounded up
                    int q = (int) Math.ceil(Math.abs(a[i][j]) / (double) a[j][j] - 0.5);
                    change(a, i, j, a[i][j] > 0 ? -q : q);
                    return true;
                }
            }
        }
        return false;
    }

    private static void termsOfRefusals() {
        says("Answers that refuse: BAD, a number is not as told, or there is no such thing");
        leaves(-1, x -> x.single(0, 0));
        leaves(-1, x -> x.single(6, 1));
        leaves(-1, x -> x.truant(0));
        leaves(-1, x -> x.cut(0));
        leaves(-1, x -> x.rule(3, 0));
        says("NONE, STATE, FULL as told");
        diagonal(0, 1, 2, 4, 8);
        diagonal(1, 1, 2, 5, 5);
        leaves(-2, x -> x.truant(0));
        leaves(-3, x -> x.children(0));
        leaves(-4, x -> x.children(1));
        says("UNFIT: what would come is no LAWFUL FORM");
        diagonal(0, 1, 1);
        leaves(-5, x -> x.entry(0, 0, 1, 1));
        does(9801, x -> x.scale(0, 99));
        leaves(-5, x -> x.scale(0, 2));
        says("WIDE as told");
        does(2, x -> x.single(0, 2));
        leaves(-6, x -> x.worth(0, MIN, 0, 0, 0));
        says("NOTHING: the SHEET is missing");
        leaves(-11, x -> x.cell(0, 0, 0));
        does(1, x -> x.sheet(0, 0, 1));
        does(1, x -> x.cell(0, 0, 0));
        does(1, x -> x.sheet(0, -1, 0));
        leaves(-11, x -> x.cell(0, 0, 0));
        says("OUTSIDE; SORT: SHEETS of unlike sorts");
        does(1, x -> x.sheet(0, 0, 2));
        does(1, x -> x.sheet(1, 1, 2));
        does(1, x -> x.sheet(2, 1, 2));
        does(1, x -> x.sheet(3, 0, 2));
        leaves(-12, x -> x.cell(0, 2, 0));
        for (int sheet = 0; sheet < 4; sheet++) {
            for (int other = 0; other < 4; other++) {
                int from = sheet;
                int to = other;
                boolean isAlike = (sheet == 0 || sheet == 3) == (other == 0 || other == 3);
                leaves(isAlike ? 2 : -13, x -> x.move(from, 0, to, 0, 2));
            }
        }
        says("SIZE: a size below 0");
        leaves(-14, x -> x.sheet(0, 0, -1));
        leaves(-14, x -> x.sheet(3, 1, MIN));
        does(1, x -> x.sheet(0, 0, 0));
        says("The constants: `NO = Integer.MIN_VALUE`: There is no such number.");
        leaves(EscalatedForms.NO, x -> x.at(0, 0, 0));
        leaves(-2147483648, x -> x.at(0, 0, 0));
        leaves(EscalatedForms.NO, x -> x.vector(0, 0, 0));
    }

    // ---- what the calls do

    private static void single() {
        says("SLOT s holds the FORM of one letter with entry a: DET.");
        for (int s = 0; s < 6; s++) {
            int slot = s;
            diagonal(s, 2, 3);
            for (int a = 1; a <= 99; a += 14) {
                int entry = a;
                does(a, x -> x.single(slot, entry));
                holds(s, a);
            }
        }
    }

    private static void form() {
        says("whose entries a_00, a_10, a_11, a_20, .. (by i, then by j, j being i at most) stand in a SHEET from number from on: n.");
        int[] row = new int[14];
        System.arraycopy(MIXED, 0, row, 3, 10);
        now.row(0, row);
        for (int n = 1; n <= 4; n++) {
            int letters = n;
            does(n, x -> x.form(letters, 0, 3, letters));
            holds(n, Arrays.copyOf(MIXED, n * (n + 1) / 2));
        }
        leaves(-2, x -> x.at(4, 2, 0));
        leaves(3, x -> x.at(4, 2, 1));
        leaves(4, x -> x.at(4, 3, 0));
        now.carries(0, row);
    }

    private static void spread() {
        says("The entries of SLOT s come to a SHEET from number from on, in the order of form():");
        now.form(0, MIXED);
        now.row(0, 77, 77, 77, 77, 77, 77, 77, 77, 77, 77, 77, 77, 77);
        does(10, x -> x.spread(0, 0, 2));
        now.carries(0, 77, 77, 9, 1, 10, -2, 3, 11, 4, -1, 2, 12, 77);
        does(4, x -> x.form(1, 0, 2, 4));
        leaves(1, x -> x.same(0, 1));
        holds(0, MIXED);
    }

    private static void clear() {
        says("SLOT s holds none:");
        diagonal(0, 1, 2);
        diagonal(1, 1, 2);
        does(0, x -> x.plant(0));
        does(2, x -> x.clear(0));
        leaves(0, x -> x.of(0, 0));
        leaves(NONE, x -> x.of(0, 1));
        leaves(BAD, x -> x.truant(0));
        leaves(1, x -> x.count(0));
        holds(1, 1, 0, 2);
        leaves(2, x -> x.ofNode(0, 1));
    }

    private static void entry() {
        says("Entry a_ij of SLOT s becomes a, a_ji too: DET then.");
        for (int i = 0; i < 4; i++) {
            for (int j = 0; j < 4; j++) {
                int row = i;
                int column = j;
                int[] entries = MIXED.clone();
                int place = Math.max(i, j) * (Math.max(i, j) + 1) / 2 + Math.min(i, j);
                entries[place] += 1;
                now.form(0, MIXED);
                does(determinant(table(entries), 4), x -> x.entry(0, row, column, entries[place]));
                holds(0, entries);
            }
        }
    }

    private static void at() {
        says("Entry a_ij of SLOT s.");
        now.form(3, MIXED);
        int[][] a = table(MIXED);
        for (int i = 0; i < 16; i++) {
            int place = i;
            leaves(a[i / 4][i % 4], x -> x.at(3, place / 4, place % 4));
        }
    }

    private static void minor() {
        says("MINOR k of SLOT s.");
        now.form(2, MIXED);
        for (int k = 0; k <= 4; k++) {
            int size = k;
            leaves(determinant(table(MIXED), k), x -> x.minor(2, size));
        }
    }

    private static void of() {
        says("Of SLOT s what 0 how many letters, 1 DET, 2 its BOX,");
        for (int n = 1; n <= 4; n++) {
            int[] entries = Arrays.copyOf(MIXED, n * (n + 1) / 2);
            now.form(n, entries);
            int slot = n;
            leaves(n, x -> x.of(slot, 0));
            leaves(determinant(table(entries), n), x -> x.of(slot, 1));
            leaves(box(table(entries)), x -> x.of(slot, 2));
        }
    }

    private static long box(int[][] a) {
        long box = 1;
        long det = determinant(a, a.length);
        for (int i = 0; i < a.length; i++) {
            int[][] rest = new int[a.length][];
            int rows = 0;
            for (int k = 0; k < a.length; k++) {
                if (k != i) {
                    int[] row = new int[a.length];
                    int columns = 0;
                    for (int l = 0; l < a.length; l++) {
                        if (l != i) {
                            row[columns++] = a[k][l];
                        }
                    }
                    rest[rows++] = row;
                }
            }
            long m = 0;
            while ((m + 1) * (m + 1) * det <= 100 * determinant(rest, rows)) {
                m++;
            }
            box *= 2 * m + 1;
        }
        return box;
    }

    private static void join() {
        says("with 0 between: its letters.");
        now.form(0, 9, 1, 10);
        now.form(1, 11, -2, 12);
        does(4, x -> x.join(0, 1, 2));
        holds(2, 9, 1, 10, 0, 0, 11, 0, 0, -2, 12);
        holds(0, 9, 1, 10);
        holds(1, 11, -2, 12);
        // what the slot held ahead leaves nothing there
        now.form(2, MIXED);
        does(4, x -> x.join(1, 0, 2));
        holds(2, 11, -2, 12, 0, 0, 9, 0, 0, 1, 10);
    }

    // ---- numbers, rules

    private static void truant() {
        says("TRUANT of SLOT s.");
        int[][] forms = {{2}, {1}, {1, 1}, {1, 2}, {1, 1, 1}, {1, 1, 2}, {1, 1, 3}, {1, 2, 2}, {1, 2, 3}, {1, 2, 4}, {1, 2, 5}};
        int[] truants = {1, 2, 3, 5, 7, 14, 6, 7, 10, 14, 10};
        for (int i = 0; i < forms.length; i++) {
            diagonal(i % 6, forms[i]);
            int slot = i % 6;
            leaves(truants[i], x -> x.truant(slot));
        }
    }

    private static void exceptions() {
        says("what 0 how many,");
        does(1, x -> x.single(0, 1));
        for (int m = 1; m <= 100; m++) {
            int top = m;
            int squares = (int) Math.sqrt(m);
            leaves(m - squares, x -> x.exceptions(0, top, 0));
        }
    }

    private static void exception() {
        says("The i-th of the EXCEPTIONS of SLOT s.");
        diagonal(2, 1, 1, 1);
        int[] all = {7, 15, 23, 28, 31, 39, 47, 55, 60, 63, 71, 79, 87, 92, 95};
        for (int i = 0; i < all.length; i++) {
            int place = i;
            leaves(all[i], x -> x.exception(2, place));
        }
        leaves(NONE, x -> x.exception(2, all.length));
    }

    private static void residues() {
        says("RESIDUES by M of SLOT s, as bits.");
        int[] entries = {3, -1, 4, 1, 2, 7};
        now.form(0, entries);
        diagonal(1, 2, 6);
        does(12, x -> x.single(2, 12));
        for (int m = 2; m <= 16; m++) {
            int by = m;
            leaves(remains(table(entries), m), x -> x.residues(0, by));
            leaves(remains(table(2, 0, 6), m), x -> x.residues(1, by));
            leaves(remains(table(12), m), x -> x.residues(2, by));
        }
    }

    private static int remains(int[][] a, int m) {
        int bits = 0;
        for (int i = 0; i < m * m * m; i++) {
            bits |= 1 << Math.floorMod(worth(a, i % m, i / m % m, i / m / m), m);
        }
        return bits;
    }

    private static void rule() {
        says("The i-th number of a RULE.");
        for (int rule = 0; rule < 3; rule++) {
            for (int i = 0; i < RULES[rule].length; i++) {
                int which = rule;
                int place = i;
                leaves(RULES[rule][i], x -> x.rule(which, place));
            }
        }
    }

    private static void lacks() {
        says("Of a RULE's numbers that are not TAKEN by SLOT s the i-th.");
        // by x x + y y: sums of two squares are taken
        diagonal(0, 1, 1);
        int[][] lacking = {{3, 6, 7, 14, 15}, {3, 7, 11, 15, 33}, {3, 7, 11, 19, 23, 31, 43, 47, 67}};
        for (int rule = 0; rule < 3; rule++) {
            int which = rule;
            for (int i = 0; i < lacking[rule].length; i++) {
                int place = i;
                leaves(lacking[rule][i], x -> x.lacks(0, which, place));
            }
            leaves(NONE, x -> x.lacks(0, which, lacking[which].length));
        }
    }

    private static void certify() {
        says("THE CERTIFICATE of a CLAIM by SLOT s comes to a SHEET from number from on, the RULE's numbers in turn, each with the numbers "
            + "of its FIRST VECTOR behind it");
        diagonal(0, 1, 2, 5, 5);
        does(1, x -> x.sheet(0, 1, 40));
        for (int i = 0; i < 40; i++) {
            int place = i;
            does(1, x -> x.cell(0, place, 77));
        }
        does(7, x -> x.certify(0, 2, 0, 2));
        int[] row = new int[40];
        Arrays.fill(row, 77);
        for (int i = 0; i < 7; i++) {
            row[2 + 5 * i] = RULES[2][i];
            System.arraycopy(firstOf(RULES[2][i]), 0, row, 3 + 5 * i, 4);
        }
        now.carries(0, row);
    }

    /** By x x + 2 y y + 5 z z + 5 w w, of all vectors with numbers of -5 .. 5, from the greatest down. */
    private static int[] firstOf(int m) {
        int[][] a = table(1, 0, 2, 0, 0, 5, 0, 0, 0, 5);
        for (int i = 11 * 11 * 11 * 11 - 1; i >= 0; i--) {
            int[] v = {i / 1331 - 5, i / 121 % 11 - 5, i / 11 % 11 - 5, i % 11 - 5};
            if (worth(a, v) == m) {
                return v;
            }
        }
        return new int[4];
    }

    // ---- escalation, the tree

    private static void children() {
        says("How many CHILDREN SLOT s has.");
        does(1, x -> x.single(0, 1));
        leaves(3, x -> x.children(0));
        // of 1 on the diagonal, with the truant 7, all rows whose squares are below 7 together: 1 + 6 + 12 + 8 + 6 + 24 + 24
        diagonal(1, 1, 1, 1);
        leaves(81, x -> x.children(1));
        diagonal(2, 1, 1);
        leaves(9, x -> x.children(2));
    }

    private static void child() {
        says("SLOT to holds child k of SLOT s: DET of it.");
        does(1, x -> x.single(0, 1));
        for (int to = 1; to < 6; to++) {
            int slot = to;
            int k = to % 3;
            does(k == 1 ? 2 : 1, x -> x.child(0, k, slot));
            holds(to, 1, 1 - k, 2);
            holds(0, 1);
        }
        does(2, x -> x.child(0, 1, 0));
        holds(0, 1, 0, 2);
    }

    private static void next() {
        says("what 0 how many, 1 of how many the CLAIM of RULE 0 holds,");
        diagonal(0, 1, 2, 10);
        for (int from : new int[] {0, 5, 64, 180, MAX}) {
            leaves(1, x -> x.next(0, from, 0) == childrenFrom(x, from)[0] ? 1 : 0);
            leaves(1, x -> x.next(0, from, 1) == childrenFrom(x, from)[1] ? 1 : 0);
        }
    }

    /** One by one, of up to 64 children: how many there are, and of how many the claim of rule 0 holds. */
    private static int[] childrenFrom(EscalatedForms x, int k) {
        int[] found = new int[2];
        for (int i = 0; i < 64 && k <= MAX - i && x.child(0, k + i, 5) > 0; i++) {
            found[0]++;
            found[1] += x.claim(5, 0);
        }
        x.clear(5);
        return found;
    }

    private static void branch() {
        says("Child k of a NODE's FORM is a NODE more, under it: its number.");
        does(1, x -> x.single(0, 1));
        does(0, x -> x.plant(0));
        does(1, x -> x.clear(0));
        for (int k = 0; k < 3; k++) {
            int which = k;
            does(k + 1, x -> x.branch(0, which));
            leaves(0, x -> x.ofNode(which + 1, 0));
            does(k == 1 ? 2 : 1, x -> x.nodeTo(which + 1, 1));
            holds(1, 1, 1 - k, 2);
        }
        // the same child once more is a node of its own
        does(4, x -> x.branch(0, 1));
        leaves(5, x -> x.count(1));
        leaves(4, x -> x.ofNode(0, 3));
    }

    private static void ofNode() {
        says("Of a NODE what 0 that which it is under");
        does(1, x -> x.single(0, 1));
        does(0, x -> x.plant(0));
        does(1, x -> x.branch(0, 0));
        does(2, x -> x.branch(1, 0));
        does(3, x -> x.branch(0, 0));
        does(4, x -> x.branch(3, 0));
        nodesAre(0, -2, 0, 1, 0, 3);
    }

    private static void nodeTo() {
        says("SLOT s holds the FORM of a NODE: DET.");
        does(1, x -> x.single(0, 1));
        does(0, x -> x.plant(0));
        does(1, x -> x.branch(0, 1));
        for (int s = 0; s < 6; s++) {
            int slot = s;
            does(2, x -> x.nodeTo(1, slot));
            holds(s, 1, 0, 2);
        }
        // the slot is its own then: the node stays as it is
        does(4, x -> x.entry(5, 1, 1, 4));
        leaves(2, x -> x.ofNode(1, 8));
        does(2, x -> x.nodeTo(1, 5));
    }

    private static void walk() {
        says("The i-th of the WALK.");
        does(1, x -> x.single(0, 1));
        does(0, x -> x.plant(0));
        does(1, x -> x.branch(0, 0));
        does(2, x -> x.branch(0, 1));
        does(3, x -> x.branch(1, 0));
        does(4, x -> x.branch(2, 0));
        does(5, x -> x.branch(1, 1));
        walksSo(0, 1, 3, 5, 2, 4);
    }

    private static void item() {
        says("Number i of a SHEET.");
        now.row(2, 5, -6, 7, MAX, MIN);
        int[] numbers = {5, -6, 7, MAX, MIN};
        for (int i = 0; i < numbers.length; i++) {
            int place = i;
            leaves(numbers[i], x -> x.item(2, place));
        }
    }
}
