import java.math.BigInteger;
import java.util.ArrayList;
import java.util.Arrays;
import java.util.List;

/**
 * The document once more, as plainly as it can be said and as slowly as that goes: all vectors of the BOX are tried, all
 * rows, all remainders. ModelTest holds the class against it.
 */
final class PlainModel {
    static final int BAD = -1, NONE = -2, STATE = -3, FULL = -4, UNFIT = -5, WIDE = -6, NOTHING = -11, OUTSIDE = -12, SORT = -13, SIZE = -14;
    static final int NO = Integer.MIN_VALUE;
    static final int[][] RULES = {
        {1, 2, 3, 5, 6, 7, 10, 14, 15},
        {1, 3, 5, 7, 11, 15, 33},
        {2, 3, 5, 7, 11, 13, 17, 19, 23, 29, 31, 37, 41, 43, 47, 67, 73}};

    /** Entries, and what has been found of them so far. */
    static final class Shape {
        final int[][] a;
        int[] counts;
        int[][] firsts;
        List<Shape> children;
        final int[] residues = new int[17];

        Shape(int[][] a) {
            this.a = a;
        }

        int n() {
            return a.length;
        }

        int det() {
            return (int) determinant(a);
        }
    }

    record Node(Shape shape, Node above, int which) { }

    private Shape[] slots = new Shape[6];
    private List<Node> tree = new ArrayList<>();
    private Shape[] keptSlots;
    private List<Node> keptTree;
    private final long[][] sheets = new long[4][];
    private final int[] sorts = new int[4];

    // ---- terms

    static long determinant(int[][] a) {
        int n = a.length;
        if (n == 0) {
            return 1;
        }
        long sum = 0;
        for (int c = 0; c < n; c++) {
            sum += (c % 2 == 0 ? 1 : -1) * a[0][c] * determinant(without(a, 0, c));
        }
        return sum;
    }

    static int[][] without(int[][] a, int row, int column) {
        int n = a.length;
        int[][] b = new int[n - 1][n - 1];
        for (int i = 0; i < n - 1; i++) {
            for (int j = 0; j < n - 1; j++) {
                b[i][j] = a[i < row ? i : i + 1][j < column ? j : j + 1];
            }
        }
        return b;
    }

    static int[][] leading(int[][] a, int k) {
        int[][] b = new int[k][];
        for (int i = 0; i < k; i++) {
            b[i] = Arrays.copyOf(a[i], k);
        }
        return b;
    }

    static int side(int[][] a, int i) {
        long det = determinant(a);
        long rest = determinant(without(a, i, i));
        int m = 0;
        while ((m + 1L) * (m + 1L) * det <= 100 * rest) {
            m++;
        }
        return m;
    }

    static long box(int[][] a) {
        long box = 1;
        for (int i = 0; i < a.length; i++) {
            box *= 2L * side(a, i) + 1;
        }
        return box;
    }

    static boolean lawful(int[][] a) {
        for (int[] row : a) {
            for (int v : row) {
                if (v < -99 || v > 99) {
                    return false;
                }
            }
        }
        for (int k = 1; k <= a.length; k++) {
            if (determinant(leading(a, k)) <= 0) {
                return false;
            }
        }
        return box(a) <= 1000000;
    }

    static long worth(int[][] a, int[] x) {
        long sum = 0;
        for (int i = 0; i < a.length; i++) {
            for (int j = 0; j < a.length; j++) {
                sum += (long) a[i][j] * x[i] * x[j];
            }
        }
        return sum;
    }

    static void fill(Shape f) {
        if (f.counts != null) {
            return;
        }
        f.counts = new int[101];
        f.firsts = new int[101][];
        int[] sides = new int[f.n()];
        for (int i = 0; i < f.n(); i++) {
            sides[i] = side(f.a, i);
        }
        int[] x = sides.clone();
        while (true) {
            long m = worth(f.a, x);
            if (m <= 100) {
                f.counts[(int) m]++;
                if (f.firsts[(int) m] == null) {
                    f.firsts[(int) m] = x.clone();
                }
            }
            int i = f.n() - 1;
            while (i >= 0 && x[i] == -sides[i]) {
                x[i] = sides[i];
                i--;
            }
            if (i < 0) {
                return;
            }
            x[i]--;
        }
    }

    static int truantOf(Shape f) {
        fill(f);
        for (int m = 1; m <= 100; m++) {
            if (f.counts[m] == 0) {
                return m;
            }
        }
        return 0;
    }

    static List<Integer> exceptionsOf(Shape f) {
        fill(f);
        List<Integer> all = new ArrayList<>();
        for (int m = 1; m <= 100; m++) {
            if (f.counts[m] == 0) {
                all.add(m);
            }
        }
        return all;
    }

    static List<Integer> lackingOf(Shape f, int rule) {
        fill(f);
        List<Integer> all = new ArrayList<>();
        for (int m : RULES[rule]) {
            if (f.counts[m] == 0) {
                all.add(m);
            }
        }
        return all;
    }

    static int residuesOf(Shape f, int m) {
        if (f.residues[m] != 0) {
            return f.residues[m];
        }
        int bits = 0;
        int ways = (int) Math.pow(m, f.n());
        int[] x = new int[f.n()];
        for (int way = 0; way < ways; way++) {
            int rest = way;
            for (int i = 0; i < x.length; i++) {
                x[i] = rest % m;
                rest /= m;
            }
            bits |= 1 << Math.floorMod(worth(f.a, x), m);
        }
        f.residues[m] = bits;
        return bits;
    }

    static int barrier(Shape f, int number) {
        for (int m = 2; m <= 16; m++) {
            int rest = (int) ((((long) number % m) + m) % m);
            if ((residuesOf(f, m) & 1 << rest) == 0) {
                return m;
            }
        }
        return NONE;
    }

    static List<Shape> childrenOf(Shape f) {
        if (f.children == null) {
            f.children = new ArrayList<>();
            grow(f, truantOf(f), new int[f.n()], 0);
        }
        return f.children;
    }

    private static void grow(Shape f, int t, int[] row, int place) {
        int n = f.n();
        if (place == n) {
            int[][] a = new int[n + 1][n + 1];
            for (int i = 0; i < n; i++) {
                for (int j = 0; j < n; j++) {
                    a[i][j] = f.a[i][j];
                }
                a[n][i] = row[i];
                a[i][n] = row[i];
            }
            a[n][n] = t;
            if (determinant(a) > 0 && lawful(a)) {
                f.children.add(new Shape(a));
            }
            return;
        }
        for (int v = 99; v >= -99; v--) {
            // no positive form has an entry whose square passes that of the two on the diagonal
            if (v * v < f.a[place][place] * t) {
                row[place] = v;
                grow(f, t, row, place + 1);
            }
        }
    }

    private static int[][] copy(int[][] a) {
        int[][] b = new int[a.length][];
        for (int i = 0; i < a.length; i++) {
            b[i] = a[i].clone();
        }
        return b;
    }

    private static void changeLetter(int[][] a, int i, int j, int c) {
        int square = a[i][i] + 2 * c * a[i][j] + c * c * a[j][j];
        int[] row = a[i].clone();
        for (int k = 0; k < a.length; k++) {
            if (k != i) {
                row[k] = a[i][k] + c * a[j][k];
            }
        }
        row[i] = square;
        for (int k = 0; k < a.length; k++) {
            a[i][k] = row[k];
            a[k][i] = row[k];
        }
    }

    private Shape slot(int s) {
        return s < 0 || s > 5 ? null : slots[s];
    }

    private boolean inside(Shape f, int i) {
        return i >= 0 && i < f.n();
    }

    private boolean store(int s, int[][] a) {
        if (!lawful(a)) {
            return false;
        }
        slots[s] = new Shape(a);
        return true;
    }

    // ---- forms

    int single(int s, int a) {
        if (s < 0 || s > 5 || a < 1 || a > 99) {
            return BAD;
        }
        return store(s, new int[][] {{a}}) ? a : UNFIT;
    }

    int form(int s, int sheet, int from, int n) {
        if (s < 0 || s > 5 || sheet < 0 || sheet > 3 || n < 1 || n > 4) {
            return BAD;
        }
        if (sheets[sheet] == null) {
            return NOTHING;
        }
        if (from < 0 || (long) from + n * (n + 1) / 2 > sheets[sheet].length) {
            return OUTSIDE;
        }
        int[][] a = new int[n][n];
        int place = from;
        for (int i = 0; i < n; i++) {
            for (int j = 0; j <= i; j++) {
                long v = sheets[sheet][place++];
                if (v < -99 || v > 99) {
                    return BAD;
                }
                a[i][j] = (int) v;
                a[j][i] = (int) v;
            }
        }
        return store(s, a) ? n : UNFIT;
    }

    int spread(int s, int sheet, int from) {
        Shape f = slot(s);
        if (f == null || sheet < 0 || sheet > 3) {
            return BAD;
        }
        if (sheets[sheet] == null) {
            return NOTHING;
        }
        int many = f.n() * (f.n() + 1) / 2;
        if (from < 0 || (long) from + many > sheets[sheet].length) {
            return OUTSIDE;
        }
        int place = from;
        for (int i = 0; i < f.n(); i++) {
            for (int j = 0; j <= i; j++) {
                sheets[sheet][place++] = f.a[i][j];
            }
        }
        return many;
    }

    int clear(int s) {
        if (s < 0 || s > 5) {
            return BAD;
        }
        int had = slots[s] == null ? 0 : slots[s].n();
        slots[s] = null;
        return had;
    }

    int entry(int s, int i, int j, int v) {
        Shape f = slot(s);
        if (f == null || !inside(f, i) || !inside(f, j) || v < -99 || v > 99) {
            return BAD;
        }
        int[][] a = copy(f.a);
        a[i][j] = v;
        a[j][i] = v;
        return store(s, a) ? slots[s].det() : UNFIT;
    }

    int at(int s, int i, int j) {
        Shape f = slot(s);
        return f == null || !inside(f, i) || !inside(f, j) ? NO : f.a[i][j];
    }

    int minor(int s, int k) {
        Shape f = slot(s);
        return f == null || k < 0 || k > f.n() ? BAD : (int) determinant(leading(f.a, k));
    }

    int of(int s, int what) {
        if (s < 0 || s > 5 || what < 0 || what > 3) {
            return BAD;
        }
        Shape f = slots[s];
        if (f == null) {
            return what == 0 ? 0 : NONE;
        }
        if (what == 0) {
            return f.n();
        }
        if (what == 1) {
            return f.det();
        }
        if (what == 2) {
            return (int) box(f.a);
        }
        int greatest = 0;
        for (int i = 0; i < f.n(); i++) {
            greatest = Math.max(greatest, f.a[i][i]);
        }
        return greatest;
    }

    long worth(int s, int x, int y, int z, int w) {
        Shape f = slot(s);
        if (f == null) {
            return BAD;
        }
        int[] v = {x, y, z, w};
        BigInteger sum = BigInteger.ZERO;
        BigInteger sizes = BigInteger.ZERO;
        for (int i = 0; i < f.n(); i++) {
            for (int j = 0; j < f.n(); j++) {
                BigInteger term = BigInteger.valueOf(f.a[i][j]).multiply(BigInteger.valueOf(v[i])).multiply(BigInteger.valueOf(v[j]));
                sum = sum.add(term);
                sizes = sizes.add(term.abs());
            }
        }
        return sizes.compareTo(BigInteger.valueOf(Long.MAX_VALUE)) > 0 ? WIDE : sum.longValueExact();
    }

    int change(int s, int i, int j, int c) {
        Shape f = slot(s);
        if (f == null || !inside(f, i) || !inside(f, j) || i == j || c < -9 || c > 9) {
            return BAD;
        }
        int[][] a = copy(f.a);
        changeLetter(a, i, j, c);
        return store(s, a) ? slots[s].det() : UNFIT;
    }

    int swap(int s, int i, int j) {
        Shape f = slot(s);
        if (f == null || !inside(f, i) || !inside(f, j)) {
            return BAD;
        }
        int[][] a = copy(f.a);
        int[] row = a[i];
        a[i] = a[j];
        a[j] = row;
        for (int[] line : a) {
            int v = line[i];
            line[i] = line[j];
            line[j] = v;
        }
        return store(s, a) ? f.n() : UNFIT;
    }

    int scale(int s, int c) {
        Shape f = slot(s);
        if (f == null || c < 1 || c > 99) {
            return BAD;
        }
        int[][] a = copy(f.a);
        for (int[] row : a) {
            for (int j = 0; j < row.length; j++) {
                row[j] *= c;
            }
        }
        return store(s, a) ? slots[s].det() : UNFIT;
    }

    int join(int s, int t, int to) {
        Shape f = slot(s);
        Shape g = slot(t);
        if (f == null || g == null || to < 0 || to > 5) {
            return BAD;
        }
        int n = f.n() + g.n();
        if (n > 4) {
            return FULL;
        }
        int[][] a = new int[n][n];
        for (int i = 0; i < f.n(); i++) {
            System.arraycopy(f.a[i], 0, a[i], 0, f.n());
        }
        for (int i = 0; i < g.n(); i++) {
            System.arraycopy(g.a[i], 0, a[f.n() + i], f.n(), g.n());
        }
        return store(to, a) ? n : UNFIT;
    }

    int reduce(int s) {
        Shape f = slot(s);
        if (f == null) {
            return BAD;
        }
        int[][] a = copy(f.a);
        int steps = 0;
        while (reduceOnce(a)) {
            steps++;
        }
        return store(s, a) ? steps : UNFIT;
    }

    private static boolean reduceOnce(int[][] a) {
        for (int i = 0; i < a.length; i++) {
            for (int j = 0; j < a.length; j++) {
                if (i != j && 2 * Math.abs(a[i][j]) > a[j][j]) {
                    int best = 0;
                    // from 0 outwards, so that of two as near the one nearer to 0 stays
                    for (int q = 0; q <= 99; q++) {
                        for (int signed : new int[] {q, -q}) {
                            if (Math.abs(a[i][j] - signed * a[j][j]) < Math.abs(a[i][j] - best * a[j][j])) {
                                best = signed;
                            }
                        }
                    }
                    changeLetter(a, i, j, -best);
                    return true;
                }
            }
        }
        return false;
    }

    int same(int s, int t) {
        Shape f = slot(s);
        Shape g = slot(t);
        return f == null || g == null ? BAD : Arrays.deepEquals(f.a, g.a) ? 1 : 0;
    }

    int unlike(int s, int t) {
        Shape f = slot(s);
        Shape g = slot(t);
        if (f == null || g == null) {
            return BAD;
        }
        fill(f);
        fill(g);
        int m = Arrays.mismatch(f.counts, g.counts);
        return m < 0 ? NONE : m;
    }

    // ---- numbers that are taken

    int takes(int s, int m) {
        Shape f = slot(s);
        if (f == null || m < 0 || m > 100) {
            return BAD;
        }
        fill(f);
        return f.counts[m];
    }

    int vector(int s, int m, int j) {
        Shape f = slot(s);
        if (f == null || m < 0 || m > 100 || !inside(f, j)) {
            return NO;
        }
        fill(f);
        return f.firsts[m] == null ? NO : f.firsts[m][j];
    }

    int truant(int s) {
        Shape f = slot(s);
        if (f == null) {
            return BAD;
        }
        return truantOf(f) == 0 ? NONE : truantOf(f);
    }

    int exceptions(int s, int m, int what) {
        Shape f = slot(s);
        if (f == null || m < 1 || m > 100 || what < 0 || what > 2) {
            return BAD;
        }
        int all = 0;
        int barred = 0;
        int greatest = 0;
        for (int number : exceptionsOf(f)) {
            if (number <= m) {
                all++;
                greatest = number;
                if (what == 1 && barrier(f, number) != NONE) {
                    barred++;
                }
            }
        }
        return what == 0 ? all : what == 1 ? barred : greatest;
    }

    int exception(int s, int i) {
        Shape f = slot(s);
        if (f == null) {
            return BAD;
        }
        List<Integer> all = exceptionsOf(f);
        return i < 0 || i >= all.size() ? NONE : all.get(i);
    }

    int residues(int s, int m) {
        Shape f = slot(s);
        return f == null || m < 2 || m > 16 ? BAD : residuesOf(f, m);
    }

    int barred(int s, int number) {
        Shape f = slot(s);
        return f == null ? BAD : barrier(f, number);
    }

    // ---- rules

    int rule(int rule, int i) {
        if (rule < 0 || rule > 2) {
            return BAD;
        }
        return i < 0 || i >= RULES[rule].length ? NONE : RULES[rule][i];
    }

    int claim(int s, int rule) {
        Shape f = slot(s);
        if (f == null || rule < 0 || rule > 2) {
            return BAD;
        }
        return lackingOf(f, rule).isEmpty() ? 1 : 0;
    }

    int lacks(int s, int rule, int i) {
        Shape f = slot(s);
        if (f == null || rule < 0 || rule > 2) {
            return BAD;
        }
        List<Integer> all = lackingOf(f, rule);
        return i < 0 || i >= all.size() ? NONE : all.get(i);
    }

    int certify(int s, int rule, int sheet, int from) {
        Shape f = slot(s);
        if (f == null || rule < 0 || rule > 2 || sheet < 0 || sheet > 3) {
            return BAD;
        }
        if (!lackingOf(f, rule).isEmpty()) {
            return STATE;
        }
        if (sheets[sheet] == null) {
            return NOTHING;
        }
        if (from < 0 || from > sheets[sheet].length) {
            return OUTSIDE;
        }
        int came = 0;
        int place = from;
        for (int m : RULES[rule]) {
            if (place + 1 + f.n() > sheets[sheet].length) {
                break;
            }
            cell(sheet, place++, m);
            for (int v : f.firsts[m]) {
                cell(sheet, place++, v);
            }
            came++;
        }
        return came;
    }

    // ---- escalation

    private static int refusal(Shape f) {
        return truantOf(f) == 0 ? STATE : f.n() == 4 ? FULL : 0;
    }

    int children(int s) {
        Shape f = slot(s);
        if (f == null) {
            return BAD;
        }
        return refusal(f) != 0 ? refusal(f) : childrenOf(f).size();
    }

    int child(int s, int k, int to) {
        Shape f = slot(s);
        if (f == null || to < 0 || to > 5) {
            return BAD;
        }
        if (refusal(f) != 0) {
            return refusal(f);
        }
        if (k < 0 || k >= childrenOf(f).size()) {
            return NONE;
        }
        slots[to] = childrenOf(f).get(k);
        return slots[to].det();
    }

    int next(int s, int k, int what) {
        Shape f = slot(s);
        if (f == null || k < 0 || what < 0 || what > 3) {
            return BAD;
        }
        if (refusal(f) != 0) {
            return refusal(f);
        }
        int many = 0;
        int claims = 0;
        int greatest = 0;
        int first = NONE;
        for (long number = k; number <= k + 63L && number < childrenOf(f).size(); number++) {
            many++;
            if (what != 0) {
                List<Integer> lacking = lackingOf(childrenOf(f).get((int) number), 0);
                for (int m : lacking) {
                    greatest = Math.max(greatest, m);
                }
                if (lacking.isEmpty()) {
                    claims++;
                    first = first == NONE ? (int) number : first;
                }
            }
        }
        return what == 0 ? many : what == 1 ? claims : what == 2 ? greatest : first;
    }

    // ---- the tree

    private boolean isNode(int node) {
        return node >= 0 && node < tree.size();
    }

    int plant(int s) {
        Shape f = slot(s);
        if (f == null) {
            return BAD;
        }
        int had = tree.size();
        tree = new ArrayList<>();
        tree.add(new Node(f, null, NONE));
        return had;
    }

    int branch(int node, int k) {
        if (!isNode(node)) {
            return BAD;
        }
        Shape f = tree.get(node).shape();
        if (refusal(f) != 0) {
            return refusal(f);
        }
        if (tree.size() == 30) {
            return FULL;
        }
        if (k < 0 || k >= childrenOf(f).size()) {
            return NONE;
        }
        tree.add(new Node(childrenOf(f).get(k), tree.get(node), k));
        return tree.size() - 1;
    }

    private int place(Node node) {
        for (int i = 0; i < tree.size(); i++) {
            if (tree.get(i) == node) {
                return i;
            }
        }
        return NONE;
    }

    private List<Node> under(Node node) {
        List<Node> all = new ArrayList<>();
        for (Node other : tree) {
            if (other.above() == node) {
                all.add(other);
            }
        }
        return all;
    }

    private int height(Node node) {
        int height = 0;
        for (Node other : under(node)) {
            height = Math.max(height, 1 + height(other));
        }
        return height;
    }

    private void walkFrom(Node node, List<Node> into) {
        into.add(node);
        for (Node other : under(node)) {
            walkFrom(other, into);
        }
    }

    int ofNode(int node, int what) {
        if (!isNode(node) || what < 0 || what > 8) {
            return BAD;
        }
        Node here = tree.get(node);
        List<Node> below = new ArrayList<>();
        walkFrom(here, below);
        switch (what) {
            case 0: return here.above() == null ? NONE : place(here.above());
            case 1: return here.shape().n();
            case 2: return truantOf(here.shape());
            case 3: return under(here).size();
            case 4: return height(here);
            case 5: return (int) below.stream().filter(x -> under(x).isEmpty()).count();
            case 6: return (int) below.stream().filter(x -> lackingOf(x.shape(), 0).isEmpty()).count();
            case 7: return here.which();
            default: return here.shape().det();
        }
    }

    int nodeTo(int node, int s) {
        if (!isNode(node) || s < 0 || s > 5) {
            return BAD;
        }
        slots[s] = tree.get(node).shape();
        return slots[s].det();
    }

    int walk(int i) {
        List<Node> all = new ArrayList<>();
        if (!tree.isEmpty()) {
            walkFrom(tree.get(0), all);
        }
        return i < 0 || i >= all.size() ? NONE : place(all.get(i));
    }

    int cut(int node) {
        if (!isNode(node)) {
            return BAD;
        }
        List<Node> gone = new ArrayList<>();
        walkFrom(tree.get(node), gone);
        List<Node> rest = new ArrayList<>();
        for (Node other : tree) {
            if (gone.stream().noneMatch(x -> x == other)) {
                rest.add(other);
            }
        }
        tree = rest;
        return tree.size();
    }

    // ---- sheets, what is kept

    int sheet(int sheet, int sort, int n) {
        if (sheet < 0 || sheet > 3 || sort < -1 || sort > 1 || sort >= 0 && n > 40) {
            return BAD;
        }
        if (sort >= 0 && n < 0) {
            return SIZE;
        }
        sheets[sheet] = sort < 0 ? null : new long[n];
        sorts[sheet] = sort;
        return 1;
    }

    int cell(int sheet, int i, int v) {
        if (sheet < 0 || sheet > 3) {
            return BAD;
        }
        if (sheets[sheet] == null) {
            return NOTHING;
        }
        if (i < 0 || i >= sheets[sheet].length) {
            return OUTSIDE;
        }
        sheets[sheet][i] = sorts[sheet] == 0 ? (byte) v : v;
        return 1;
    }

    long item(int sheet, int i) {
        if (sheet < 0 || sheet > 3 || sheets[sheet] == null || i < 0 || i >= sheets[sheet].length) {
            return Long.MIN_VALUE;
        }
        return sheets[sheet][i];
    }

    int move(int sheet, int i, int other, int j, int n) {
        if (sheet < 0 || sheet > 3 || other < 0 || other > 3) {
            return BAD;
        }
        if (sheets[sheet] == null || sheets[other] == null) {
            return NOTHING;
        }
        if (sorts[sheet] != sorts[other]) {
            return SORT;
        }
        if (n < 0 || i < 0 || j < 0 || (long) i + n > sheets[sheet].length || (long) j + n > sheets[other].length) {
            return OUTSIDE;
        }
        long[] were = sheets[sheet].clone();
        for (int k = 0; k < n; k++) {
            sheets[other][j + k] = were[i + k];
        }
        return n;
    }

    int keep() {
        keptSlots = slots.clone();
        keptTree = new ArrayList<>(tree);
        return count(0);
    }

    int back() {
        if (keptSlots == null) {
            return NONE;
        }
        slots = keptSlots.clone();
        tree = new ArrayList<>(keptTree);
        return count(0);
    }

    int count(int what) {
        switch (what) {
            case 0: return (int) Arrays.stream(slots).filter(x -> x != null).count();
            case 1: return tree.size();
            case 2: return (int) Arrays.stream(sheets).filter(x -> x != null).count();
            case 3: return keptSlots == null ? 0 : 1;
            default: return BAD;
        }
    }
}
