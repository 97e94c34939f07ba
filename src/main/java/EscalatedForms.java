import java.util.Arrays;

/** Positive whole forms of up to four letters, the numbers they take, and the tree of their escalators. */
public final class EscalatedForms {
    public static final int BAD = -1, NONE = -2, STATE = -3, FULL = -4, UNFIT = -5, WIDE = -6, NOTHING = -11, OUTSIDE = -12, SORT = -13, SIZE = -14;
    public static final int NO = Integer.MIN_VALUE;

    private static final int SLOTS = 6;
    private static final int SHEETS = 4;
    private static final int SHEET_SIZE = 40;
    private static final int LETTERS = 4;
    private static final int ENTRY_TOP = 99;
    private static final int NUMBER_TOP = 100;
    private static final int BOX_TOP = 1000000;
    private static final int MODULUS_TOP = 16;
    private static final int NODES = 30;
    private static final int NEXT_SPAN = 64;
    private static final int CHANGE_TOP = 9;
    /** Far above the steps that any loop whose end the document does not tell can need. */
    private static final int GUARD = 4000000;
    private static final long LARGEST = 9223372036854775807L;
    private static final long NO_ITEM = -9223372036854775807L - 1L;

    private static final int[] RULE_ALL = {1, 2, 3, 5, 6, 7, 10, 14, 15};
    private static final int[] RULE_ODD = {1, 3, 5, 7, 11, 15, 33};
    private static final int[] RULE_PRIME = {2, 3, 5, 7, 11, 13, 17, 19, 23, 29, 31, 37, 41, 43, 47, 67, 73};
    private static final int RULE_ALL_TOP = 15;

    private final Form[] slots;
    private final Form[] keptSlots;
    private final Tree tree;
    private final Tree keptTree;
    private boolean isKept;
    private final Sheet[] sheets;
    private final Draft draft;
    private final Ellipsoid ellipsoid;
    private final Remainders remainders;
    private final Brood brood;

    public EscalatedForms() {
        slots = new Form[SLOTS];
        keptSlots = new Form[SLOTS];
        tree = new Tree();
        keptTree = new Tree();
        isKept = false;
        sheets = new Sheet[SHEETS];
        for (int i = 0; i < SHEETS; i++) {
            sheets[i] = new Sheet();
        }
        draft = new Draft();
        ellipsoid = new Ellipsoid();
        remainders = new Remainders();
        brood = new Brood();
    }

    // ---- forms

    public int single(int s, int a) {
        if (!isSlot(s) || a < 1 || a > ENTRY_TOP) {
            return BAD;
        }
        draft.begin(1);
        draft.set(0, 0, a);
        return storeDraft(s) ? draft.det : UNFIT;
    }

    public int form(int s, int sheet, int from, int n) {
        if (!isSlot(s) || !isSheet(sheet) || n < 1 || n > LETTERS) {
            return BAD;
        }
        Sheet row = sheets[sheet];
        if (row.isMissing()) {
            return NOTHING;
        }
        if (!row.has(from, triangle(n))) {
            return OUTSIDE;
        }
        draft.begin(n);
        int place = from;
        for (int i = 0; i < n; i++) {
            for (int j = 0; j <= i; j++) {
                draft.set(i, j, row.numbers[place]);
                place++;
            }
        }
        if (!draft.isInRange()) {
            return BAD;
        }
        return storeDraft(s) ? n : UNFIT;
    }

    public int spread(int s, int sheet, int from) {
        Form f = held(s);
        if (f == null || !isSheet(sheet)) {
            return BAD;
        }
        Sheet row = sheets[sheet];
        if (row.isMissing()) {
            return NOTHING;
        }
        if (!row.has(from, triangle(f.letters))) {
            return OUTSIDE;
        }
        int place = from;
        for (int i = 0; i < f.letters; i++) {
            for (int j = 0; j <= i; j++) {
                row.put(place, f.entries[LETTERS * i + j]);
                place++;
            }
        }
        return triangle(f.letters);
    }

    public int clear(int s) {
        if (!isSlot(s)) {
            return BAD;
        }
        int had = slots[s] == null ? 0 : slots[s].letters;
        slots[s] = null;
        return had;
    }

    public int entry(int s, int i, int j, int a) {
        Form f = held(s);
        if (f == null || !isLetter(f, i) || !isLetter(f, j) || a < -ENTRY_TOP || a > ENTRY_TOP) {
            return BAD;
        }
        draft.load(f);
        draft.set(i, j, a);
        return storeDraft(s) ? draft.det : UNFIT;
    }

    public int at(int s, int i, int j) {
        Form f = held(s);
        if (f == null || !isLetter(f, i) || !isLetter(f, j)) {
            return NO;
        }
        return f.entries[LETTERS * i + j];
    }

    public int minor(int s, int k) {
        Form f = held(s);
        if (f == null || k < 0 || k > f.letters) {
            return BAD;
        }
        draft.load(f);
        return (int) draft.determinant((1 << k) - 1);
    }

    public int of(int s, int what) {
        if (!isSlot(s) || what < 0 || what > 3) {
            return BAD;
        }
        Form f = slots[s];
        if (f == null) {
            return what == 0 ? 0 : NONE;
        }
        switch (what) {
            case 0:
                return f.letters;
            case 1:
                return f.det;
            case 2:
                return f.box;
            default:
                return f.greatestSquare();
        }
    }

    public long worth(int s, int x, int y, int z, int w) {
        Form f = held(s);
        if (f == null) {
            return BAD;
        }
        long[] numbers = {x, y, z, w};
        long room = LARGEST;
        long sum = 0;
        for (int i = 0; i < f.letters; i++) {
            for (int j = 0; j < f.letters; j++) {
                long product = numbers[i] * numbers[j];
                int a = f.entries[LETTERS * i + j];
                long size = Math.abs(product);
                // a division tells ahead of the product whether it would pass the room that is left
                if (size != 0 && Math.abs(a) > room / size) {
                    return WIDE;
                }
                room -= Math.abs(a) * size;
                sum += a * product;
            }
        }
        return sum;
    }

    public int change(int s, int i, int j, int c) {
        Form f = held(s);
        if (f == null || !isLetter(f, i) || !isLetter(f, j) || i == j || c < -CHANGE_TOP || c > CHANGE_TOP) {
            return BAD;
        }
        draft.load(f);
        draft.addLetter(i, j, c);
        return storeDraft(s) ? draft.det : UNFIT;
    }

    public int swap(int s, int i, int j) {
        Form f = held(s);
        if (f == null || !isLetter(f, i) || !isLetter(f, j)) {
            return BAD;
        }
        draft.load(f);
        draft.exchange(f, i, j);
        return storeDraft(s) ? f.letters : UNFIT;
    }

    public int scale(int s, int c) {
        Form f = held(s);
        if (f == null || c < 1 || c > ENTRY_TOP) {
            return BAD;
        }
        draft.load(f);
        draft.multiply(c);
        return storeDraft(s) ? draft.det : UNFIT;
    }

    public int join(int s, int t, int to) {
        Form first = held(s);
        Form second = held(t);
        if (first == null || second == null || !isSlot(to)) {
            return BAD;
        }
        int letters = first.letters + second.letters;
        if (letters > LETTERS) {
            return FULL;
        }
        draft.begin(letters);
        draft.paste(first, 0);
        draft.paste(second, first.letters);
        return storeDraft(to) ? letters : UNFIT;
    }

    public int reduce(int s) {
        Form f = held(s);
        if (f == null) {
            return BAD;
        }
        draft.load(f);
        int steps = 0;
        // each step makes a square's entry less, so that there are fewer than 4 times 99
        while (steps < GUARD && draft.reduceOnce()) {
            steps++;
        }
        return storeDraft(s) ? steps : UNFIT;
    }

    public int same(int s, int t) {
        Form f = held(s);
        Form g = held(t);
        if (f == null || g == null) {
            return BAD;
        }
        if (f.letters != g.letters) {
            return 0;
        }
        for (int i = 0; i < LETTERS * LETTERS; i++) {
            if (f.entries[i] != g.entries[i]) {
                return 0;
            }
        }
        return 1;
    }

    public int unlike(int s, int t) {
        Form f = held(s);
        Form g = held(t);
        if (f == null || g == null) {
            return BAD;
        }
        int[] ours = takenBy(f).counts;
        int[] theirs = takenBy(g).counts;
        for (int m = 0; m <= NUMBER_TOP; m++) {
            if (ours[m] != theirs[m]) {
                return m;
            }
        }
        return NONE;
    }

    // ---- numbers that are taken

    public int takes(int s, int m) {
        Form f = held(s);
        if (f == null || m < 0 || m > NUMBER_TOP) {
            return BAD;
        }
        return takenBy(f).counts[m];
    }

    public int vector(int s, int m, int j) {
        Form f = held(s);
        if (f == null || m < 0 || m > NUMBER_TOP || !isLetter(f, j)) {
            return NO;
        }
        Taken taken = takenBy(f);
        return taken.counts[m] == 0 ? NO : taken.firsts[f.letters * m + j];
    }

    public int truant(int s) {
        Form f = held(s);
        if (f == null) {
            return BAD;
        }
        int first = takenBy(f).firstLacking();
        return first == 0 ? NONE : first;
    }

    public int exceptions(int s, int m, int what) {
        Form f = held(s);
        if (f == null || m < 1 || m > NUMBER_TOP || what < 0 || what > 2) {
            return BAD;
        }
        int[] counts = takenBy(f).counts;
        int all = 0;
        int barredOnes = 0;
        int greatest = 0;
        for (int number = 1; number <= m; number++) {
            if (counts[number] == 0) {
                all++;
                greatest = number;
                if (what == 1 && barrierOf(f, number) != NONE) {
                    barredOnes++;
                }
            }
        }
        return what == 0 ? all : what == 1 ? barredOnes : greatest;
    }

    public int exception(int s, int i) {
        Form f = held(s);
        if (f == null) {
            return BAD;
        }
        int[] counts = takenBy(f).counts;
        int passed = 0;
        for (int number = 1; number <= NUMBER_TOP; number++) {
            if (counts[number] == 0) {
                if (passed == i) {
                    return number;
                }
                passed++;
            }
        }
        return NONE;
    }

    public int residues(int s, int m) {
        Form f = held(s);
        if (f == null || m < 2 || m > MODULUS_TOP) {
            return BAD;
        }
        return remainders.bitsOf(f, m);
    }

    public int barred(int s, int number) {
        Form f = held(s);
        return f == null ? BAD : barrierOf(f, number);
    }

    // ---- rules

    public int rule(int rule, int i) {
        if (!isRule(rule)) {
            return BAD;
        }
        int[] numbers = numbersOf(rule);
        return i < 0 || i >= numbers.length ? NONE : numbers[i];
    }

    public int claim(int s, int rule) {
        Form f = held(s);
        if (f == null || !isRule(rule)) {
            return BAD;
        }
        return isClaimed(takenBy(f), rule) ? 1 : 0;
    }

    public int lacks(int s, int rule, int i) {
        Form f = held(s);
        if (f == null || !isRule(rule)) {
            return BAD;
        }
        return lackingOf(takenBy(f), rule, i);
    }

    public int certify(int s, int rule, int sheet, int from) {
        Form f = held(s);
        if (f == null || !isRule(rule) || !isSheet(sheet)) {
            return BAD;
        }
        Taken taken = takenBy(f);
        if (!isClaimed(taken, rule)) {
            return STATE;
        }
        Sheet row = sheets[sheet];
        if (row.isMissing()) {
            return NOTHING;
        }
        if (!row.has(from, 0)) {
            return OUTSIDE;
        }
        int[] numbers = numbersOf(rule);
        int came = 0;
        int place = from;
        while (came < numbers.length && row.has(place, 1 + f.letters)) {
            row.put(place, numbers[came]);
            for (int j = 0; j < f.letters; j++) {
                row.put(place + 1 + j, taken.firsts[f.letters * numbers[came] + j]);
            }
            place += 1 + f.letters;
            came++;
        }
        return came;
    }

    // ---- escalation

    public int children(int s) {
        Form f = held(s);
        if (f == null) {
            return BAD;
        }
        int refusal = refusalToGrow(f);
        return refusal != 0 ? refusal : broodOf(f).size;
    }

    public int child(int s, int k, int to) {
        Form f = held(s);
        if (f == null || !isSlot(to)) {
            return BAD;
        }
        int refusal = refusalToGrow(f);
        if (refusal != 0) {
            return refusal;
        }
        if (!broodOf(f).shape(k, draft)) {
            return NONE;
        }
        return storeDraft(to) ? draft.det : UNFIT;
    }

    public int next(int s, int k, int what) {
        Form f = held(s);
        if (f == null || k < 0 || what < 0 || what > 3) {
            return BAD;
        }
        int refusal = refusalToGrow(f);
        if (refusal != 0) {
            return refusal;
        }
        int span = Math.max(0, Math.min(NEXT_SPAN, broodOf(f).size - k));
        if (what == 0) {
            return span;
        }
        int claims = 0;
        int greatestLack = 0;
        int firstClaim = NONE;
        for (int i = 0; i < span; i++) {
            int lack = brood.shape(k + i, draft) ? greatestLackOfDraft() : 0;
            greatestLack = Math.max(greatestLack, lack);
            if (lack == 0) {
                claims++;
                if (firstClaim == NONE) {
                    firstClaim = k + i;
                }
            }
        }
        return what == 1 ? claims : what == 2 ? greatestLack : firstClaim;
    }

    // ---- the tree

    public int plant(int s) {
        Form f = held(s);
        if (f == null) {
            return BAD;
        }
        int had = tree.size;
        tree.truncate(0);
        tree.add(f, NONE, NONE);
        return had;
    }

    public int branch(int node, int k) {
        if (!tree.isNode(node)) {
            return BAD;
        }
        Form f = tree.forms[node];
        int refusal = refusalToGrow(f);
        if (refusal != 0) {
            return refusal;
        }
        if (tree.size >= NODES) {
            return FULL;
        }
        if (!broodOf(f).shape(k, draft)) {
            return NONE;
        }
        if (!draft.isLawful()) {
            return UNFIT;
        }
        return tree.add(new Form(draft), node, k);
    }

    public int ofNode(int node, int what) {
        if (!tree.isNode(node)) {
            return BAD;
        }
        Form f = tree.forms[node];
        switch (what) {
            case 0:
                return tree.above[node];
            case 1:
                return f.letters;
            case 2:
                return takenBy(f).firstLacking();
            case 3:
                return tree.under(node);
            case 4:
                return tree.heightOf(node);
            case 5:
                return tree.leavesOf(node);
            case 6:
                return claimsBelow(node);
            case 7:
                return tree.which[node];
            case 8:
                return f.det;
            default:
                return BAD;
        }
    }

    public int nodeTo(int node, int s) {
        if (!tree.isNode(node) || !isSlot(s)) {
            return BAD;
        }
        slots[s] = tree.forms[node];
        return tree.forms[node].det;
    }

    public int walk(int i) {
        if (i < 0 || i >= tree.size) {
            return NONE;
        }
        int node = 0;
        for (int step = 0; step < i; step++) {
            node = tree.following(node);
        }
        return node;
    }

    public int cut(int node) {
        if (!tree.isNode(node)) {
            return BAD;
        }
        tree.remove(node);
        return tree.size;
    }

    // ---- sheets, what is kept

    public int sheet(int sheet, int sort, int n) {
        if (!isSheet(sheet) || sort < Sheet.MISSING || sort > Sheet.INTS) {
            return BAD;
        }
        if (sort == Sheet.MISSING) {
            sheets[sheet].become(Sheet.MISSING, 0);
            return 1;
        }
        if (n > SHEET_SIZE) {
            return BAD;
        }
        if (n < 0) {
            return SIZE;
        }
        sheets[sheet].become(sort, n);
        return 1;
    }

    public int cell(int sheet, int i, int v) {
        if (!isSheet(sheet)) {
            return BAD;
        }
        Sheet row = sheets[sheet];
        if (row.isMissing()) {
            return NOTHING;
        }
        if (!row.has(i, 1)) {
            return OUTSIDE;
        }
        row.put(i, v);
        return 1;
    }

    public long item(int sheet, int i) {
        if (!isSheet(sheet) || sheets[sheet].isMissing() || !sheets[sheet].has(i, 1)) {
            return NO_ITEM;
        }
        return sheets[sheet].numbers[i];
    }

    public int move(int sheet, int i, int other, int j, int n) {
        if (!isSheet(sheet) || !isSheet(other)) {
            return BAD;
        }
        Sheet source = sheets[sheet];
        Sheet target = sheets[other];
        if (source.isMissing() || target.isMissing()) {
            return NOTHING;
        }
        if (source.sort != target.sort) {
            return SORT;
        }
        if (!source.has(i, n) || !target.has(j, n)) {
            return OUTSIDE;
        }
        System.arraycopy(source.numbers, i, target.numbers, j, n);
        return n;
    }

    public int keep() {
        for (int s = 0; s < SLOTS; s++) {
            keptSlots[s] = slots[s];
        }
        keptTree.become(tree);
        isKept = true;
        return heldSlots();
    }

    public int back() {
        if (!isKept) {
            return NONE;
        }
        for (int s = 0; s < SLOTS; s++) {
            slots[s] = keptSlots[s];
        }
        tree.become(keptTree);
        return heldSlots();
    }

    public int count(int what) {
        switch (what) {
            case 0:
                return heldSlots();
            case 1:
                return tree.size;
            case 2:
                return presentSheets();
            case 3:
                return isKept ? 1 : 0;
            default:
                return BAD;
        }
    }

    // ---- what the calls share

    private static boolean isSlot(int s) {
        return s >= 0 && s < SLOTS;
    }

    private static boolean isSheet(int sheet) {
        return sheet >= 0 && sheet < SHEETS;
    }

    private static boolean isLetter(Form f, int i) {
        return i >= 0 && i < f.letters;
    }

    private static boolean isRule(int rule) {
        return rule >= 0 && rule <= 2;
    }

    private static int[] numbersOf(int rule) {
        return rule == 0 ? RULE_ALL : rule == 1 ? RULE_ODD : RULE_PRIME;
    }

    private static int triangle(int n) {
        return n * (n + 1) / 2;
    }

    /** The form of a slot; null stands for all that makes a slot bad where a form is asked for. */
    private Form held(int s) {
        return isSlot(s) ? slots[s] : null;
    }

    private int heldSlots() {
        int held = 0;
        for (int s = 0; s < SLOTS; s++) {
            if (slots[s] != null) {
                held++;
            }
        }
        return held;
    }

    private int presentSheets() {
        int present = 0;
        for (int i = 0; i < SHEETS; i++) {
            if (!sheets[i].isMissing()) {
                present++;
            }
        }
        return present;
    }

    /** A draft that is no lawful form leaves the slot as it was. */
    private boolean storeDraft(int s) {
        if (!isSlot(s) || !draft.isLawful()) {
            return false;
        }
        slots[s] = new Form(draft);
        return true;
    }

    /** Made when first asked for, and kept with the form, as forms never change. */
    private Taken takenBy(Form f) {
        if (f.taken == null) {
            f.taken = new Taken(f, ellipsoid);
        }
        return f.taken;
    }

    private int barrierOf(Form f, int number) {
        for (int m = 2; m <= MODULUS_TOP; m++) {
            if ((remainders.bitsOf(f, m) >> Math.floorMod(number, m) & 1) == 0) {
                return m;
            }
        }
        return NONE;
    }

    private static int lackingOf(Taken taken, int rule, int i) {
        int[] numbers = numbersOf(rule);
        int passed = 0;
        for (int place = 0; place < numbers.length; place++) {
            if (taken.counts[numbers[place]] == 0) {
                if (passed == i) {
                    return numbers[place];
                }
                passed++;
            }
        }
        return NONE;
    }

    private static boolean isClaimed(Taken taken, int rule) {
        return lackingOf(taken, rule, 0) == NONE;
    }

    private int claimsBelow(int node) {
        int claims = 0;
        for (int other = node; other < tree.size; other++) {
            if (tree.isWithin(other, node) && isClaimed(takenBy(tree.forms[other]), 0)) {
                claims++;
            }
        }
        return claims;
    }

    private int refusalToGrow(Form f) {
        if (takenBy(f).firstLacking() == 0) {
            return STATE;
        }
        return f.letters == LETTERS ? FULL : 0;
    }

    private Brood broodOf(Form f) {
        if (brood.parent != f) {
            brood.gather(f, takenBy(f).firstLacking(), draft, ellipsoid);
        }
        return brood;
    }

    /** Only numbers up to the greatest of the rule are looked for: that is far less than all up to 100. */
    private int greatestLackOfDraft() {
        ellipsoid.openWorths(draft.letters, draft.entries, RULE_ALL_TOP);
        int seen = 0;
        for (int guard = 0; guard < GUARD && ellipsoid.advance(); guard++) {
            seen |= 1 << ellipsoid.worthHere();
        }
        for (int place = RULE_ALL.length - 1; place >= 0; place--) {
            if ((seen >> RULE_ALL[place] & 1) == 0) {
                return RULE_ALL[place];
            }
        }
        return 0;
    }

    /** The greatest whole number whose square is at most a number (0, if that is below 0). */
    private static long squareRoot(long number) {
        if (number <= 0) {
            return 0;
        }
        // Newton's steps go down to the root from any start that is not below it
        long root = 1;
        for (int bit = 0; bit < 31 && root * root < number; bit++) {
            root *= 2;
        }
        for (int step = 0; step < 64 && root > 0; step++) {
            long better = (root + number / root) / 2;
            if (better >= root) {
                return root;
            }
            root = better;
        }
        return root;
    }

    /** A lawful form. It never changes, so that slots, nodes and what is kept may share it. */
    private static final class Form {
        final int letters;
        final int[] entries;
        final int det;
        final int box;
        Taken taken;
        int[] remainderBits;

        Form(Draft draft) {
            letters = draft.letters;
            entries = draft.entries.clone();
            det = draft.det;
            box = draft.box;
        }

        int greatestSquare() {
            int greatest = 0;
            for (int i = 0; i < letters; i++) {
                greatest = Math.max(greatest, entries[LETTERS * i + i]);
            }
            return greatest;
        }
    }

    /** Entries that may become a form: each object has one, on which all that would come is tried first. */
    private static final class Draft {
        int letters;
        final int[] entries = new int[LETTERS * LETTERS];
        int det;
        int box;
        private final long[] work = new long[LETTERS * LETTERS];
        private final int[] chosen = new int[LETTERS];

        void begin(int n) {
            letters = n;
            Arrays.fill(entries, 0);
        }

        void load(Form f) {
            letters = f.letters;
            System.arraycopy(f.entries, 0, entries, 0, entries.length);
        }

        int get(int i, int j) {
            return entries[LETTERS * i + j];
        }

        void set(int i, int j, int a) {
            entries[LETTERS * i + j] = a;
            entries[LETTERS * j + i] = a;
        }

        void paste(Form f, int first) {
            for (int i = 0; i < f.letters && first + i < LETTERS; i++) {
                for (int j = 0; j <= i; j++) {
                    set(first + i, first + j, f.entries[LETTERS * i + j]);
                }
            }
        }

        void multiply(int c) {
            for (int i = 0; i < entries.length; i++) {
                entries[i] *= c;
            }
        }

        void exchange(Form f, int i, int j) {
            for (int k = 0; k < letters; k++) {
                int source = k == i ? j : k == j ? i : k;
                for (int l = 0; l <= k; l++) {
                    int other = l == i ? j : l == j ? i : l;
                    set(k, l, f.entries[LETTERS * source + other]);
                }
            }
        }

        void addLetter(int i, int j, int c) {
            int square = get(i, i) + 2 * c * get(i, j) + c * c * get(j, j);
            for (int k = 0; k < letters; k++) {
                if (k != i) {
                    set(i, k, get(i, k) + c * get(j, k));
                }
            }
            set(i, i, square);
        }

        boolean reduceOnce() {
            for (int i = 0; i < letters; i++) {
                for (int j = 0; j < letters; j++) {
                    int size = Math.abs(get(i, j));
                    int square = get(j, j);
                    if (i != j && square > 0 && 2 * size > square) {
                        // halves go down, to the whole number nearer to 0
                        int q = (2 * size + square - 1) / (2 * square);
                        addLetter(i, j, get(i, j) > 0 ? -q : q);
                        return true;
                    }
                }
            }
            return false;
        }

        boolean isInRange() {
            for (int i = 0; i < entries.length; i++) {
                if (entries[i] < -ENTRY_TOP || entries[i] > ENTRY_TOP) {
                    return false;
                }
            }
            return true;
        }

        /** Sets det and box too, if so. */
        boolean isLawful() {
            if (!isInRange()) {
                return false;
            }
            int all = (1 << letters) - 1;
            long whole = determinant(all);
            if (whole <= 0) {
                return false;
            }
            long sides = 1;
            for (int i = 0; i < letters; i++) {
                long rest = determinant(all & ~(1 << i));
                sides *= 2 * squareRoot(NUMBER_TOP * rest / whole) + 1;
                if (sides > BOX_TOP) {
                    return false;
                }
            }
            det = (int) whole;
            box = (int) sides;
            return true;
        }

        /**
         * Determinant of the entries of those letters whose bits are set; 0, if it or one of the minors ahead of it is
         * not above 0. It is eliminated without fractions: the pivots are the minors, and all divisions are even.
         */
        long determinant(int bits) {
            int n = 0;
            for (int i = 0; i < letters; i++) {
                if ((bits >> i & 1) != 0) {
                    chosen[n] = i;
                    n++;
                }
            }
            for (int i = 0; i < n; i++) {
                for (int j = 0; j < n; j++) {
                    work[LETTERS * i + j] = get(chosen[i], chosen[j]);
                }
            }
            long before = 1;
            for (int k = 0; k < n; k++) {
                long pivot = work[LETTERS * k + k];
                if (pivot <= 0) {
                    return 0;
                }
                eliminateBehind(k, n, before);
                before = pivot;
            }
            return before;
        }

        private void eliminateBehind(int k, int n, long before) {
            if (before == 0) {
                return;
            }
            long pivot = work[LETTERS * k + k];
            for (int i = k + 1; i < n; i++) {
                for (int j = i; j < n; j++) {
                    long cross = work[LETTERS * k + i] * work[LETTERS * k + j];
                    work[LETTERS * i + j] = (pivot * work[LETTERS * i + j] - cross) / before;
                }
            }
        }
    }

    /**
     * The whole vectors x inside an ellipsoid, from the greatest down, a letter inside the other. With what is left[k]
     * ahead of letter k, and e = slopes[k][0] x_0 + .. + slopes[k][k] x_k, that letter may be all that keeps e e at most
     * outer[k] left[k]; then left[k + 1] is (outer[k] left[k] - e e) / slopes[k][k], which is even. So no fraction is
     * needed, and no vector is tried in vain on the last letter.
     */
    private static final class Ellipsoid {
        private int letters;
        private int level;
        private int limit;
        private boolean isHalf;
        private int strict;
        private final long[] slopes = new long[LETTERS * LETTERS];
        private final long[] outer = new long[LETTERS];
        private final long[] left = new long[LETTERS + 1];
        private final long[] shift = new long[LETTERS];
        final int[] x = new int[LETTERS];
        private final int[] low = new int[LETTERS];

        /** All vectors with a worth up to a top, but of x and -x only the one above: the first vectors are there. */
        void openWorths(int n, int[] entries, int top) {
            letters = n;
            limit = top;
            isHalf = true;
            strict = 0;
            for (int i = 0; i < slopes.length && i < entries.length; i++) {
                slopes[i] = entries[i];
            }
            long before = 1;
            for (int k = n - 1; k >= 0; k--) {
                outer[k] = before;
                eliminateAhead(k, before);
                before = slopes[LETTERS * k + k];
            }
            left[0] = top * before;
            enter(0);
        }

        private void eliminateAhead(int k, long before) {
            if (before == 0) {
                return;
            }
            long pivot = slopes[LETTERS * k + k];
            for (int i = 0; i < k; i++) {
                for (int j = 0; j <= i; j++) {
                    long cross = slopes[LETTERS * k + i] * slopes[LETTERS * k + j];
                    slopes[LETTERS * i + j] = (pivot * slopes[LETTERS * i + j] - cross) / before;
                }
            }
        }

        /** All rows by which a letter more, with this square, keeps a form of three letters at most positive. */
        void openRows(Form f, int square) {
            letters = Math.min(f.letters, LETTERS - 1);
            limit = square;
            isHalf = false;
            strict = 1;
            long a = f.entries[0];
            long b = f.entries[LETTERS];
            long c = f.entries[LETTERS + 1];
            long d = f.entries[2 * LETTERS];
            long e = f.entries[2 * LETTERS + 1];
            // line k has the cofactors of the last column of the first k + 1 letters
            slopes[0] = 1;
            slopes[LETTERS] = -b;
            slopes[LETTERS + 1] = a;
            slopes[2 * LETTERS] = b * e - c * d;
            slopes[2 * LETTERS + 1] = b * d - a * e;
            slopes[2 * LETTERS + 2] = a * c - b * b;
            outer[0] = a;
            outer[1] = a * c - b * b;
            outer[2] = f.det;
            left[0] = square;
            enter(0);
        }

        private void enter(int k) {
            level = k;
            long sum = 0;
            boolean isZeroAhead = true;
            for (int j = 0; j < k; j++) {
                sum += slopes[LETTERS * k + j] * x[j];
                isZeroAhead = isZeroAhead && x[j] == 0;
            }
            shift[k] = sum;
            long slope = slopes[LETTERS * k + k];
            if (slope <= 0) {
                x[k] = 0;
                low[k] = 0;
                return;
            }
            long root = squareRoot(outer[k] * left[k] - strict);
            x[k] = (int) Math.floorDiv(root - sum, slope) + 1;
            low[k] = isHalf && isZeroAhead ? 0 : (int) -Math.floorDiv(root + sum, slope);
        }

        /** To the next vector, if there is one more. */
        boolean advance() {
            for (int guard = 0; guard < GUARD && level >= 0; guard++) {
                if (x[level] <= low[level]) {
                    level--;
                } else {
                    x[level]--;
                    narrow(level);
                    if (level == letters - 1) {
                        return true;
                    }
                    enter(level + 1);
                }
            }
            return false;
        }

        private void narrow(int k) {
            long slope = slopes[LETTERS * k + k];
            long e = slope * x[k] + shift[k];
            left[k + 1] = slope <= 0 ? 0 : (outer[k] * left[k] - e * e) / slope;
        }

        int worthHere() {
            return limit - (int) left[letters];
        }
    }

    /** Which of 0 .. 100 a form takes: by how many vectors, by which first. */
    private static final class Taken {
        final int[] counts = new int[NUMBER_TOP + 1];
        final int[] firsts;

        Taken(Form f, Ellipsoid ellipsoid) {
            int n = f.letters;
            firsts = new int[n * (NUMBER_TOP + 1)];
            ellipsoid.openWorths(n, f.entries, NUMBER_TOP);
            for (int guard = 0; guard < GUARD && ellipsoid.advance(); guard++) {
                int m = ellipsoid.worthHere();
                if (m >= 0 && m <= NUMBER_TOP) {
                    if (counts[m] == 0) {
                        System.arraycopy(ellipsoid.x, 0, firsts, n * m, n);
                    }
                    counts[m] += m == 0 ? 1 : 2;
                }
            }
        }

        /** The truant; 0, if there is none. */
        int firstLacking() {
            for (int m = 1; m <= NUMBER_TOP; m++) {
                if (counts[m] == 0) {
                    return m;
                }
            }
            return 0;
        }
    }

    /** What remains of worths by a modulus. */
    private static final class Remainders {
        private final int[] x = new int[LETTERS];
        private final byte[] seen = new byte[MODULUS_TOP * MODULUS_TOP];

        int bitsOf(Form f, int m) {
            if (m < 2 || m > MODULUS_TOP) {
                return 0;
            }
            if (f.remainderBits == null) {
                f.remainderBits = new int[MODULUS_TOP + 1];
            }
            // 0 always remains of some worth, so that no bits tells that they are still to be found
            if (f.remainderBits[m] == 0) {
                f.remainderBits[m] = foundBits(f, m);
            }
            return f.remainderBits[m];
        }

        /** The last letter is run through only once for each pair of what the letters ahead of it leave to it. */
        private int foundBits(Form f, int m) {
            Arrays.fill(seen, (byte) 0);
            Arrays.fill(x, 0);
            int last = f.letters - 1;
            int full = (1 << m) - 1;
            int bits = 0;
            int ways = 1;
            for (int i = 0; i < last; i++) {
                ways *= m;
            }
            for (int way = 0; way < ways && bits != full; way++) {
                int base = Math.floorMod(worthAhead(f, last), m);
                int slope = Math.floorMod(2 * slopeOf(f, last), m);
                if (seen[MODULUS_TOP * base + slope] == 0) {
                    seen[MODULUS_TOP * base + slope] = 1;
                    for (int w = 0; w < m; w++) {
                        int square = f.entries[LETTERS * last + last];
                        bits |= 1 << (base + slope * w + square * w * w) % m;
                    }
                }
                countOn(last, m);
            }
            return bits;
        }

        private int worthAhead(Form f, int last) {
            int sum = 0;
            for (int i = 0; i < last; i++) {
                for (int j = 0; j < last; j++) {
                    sum += f.entries[LETTERS * i + j] * x[i] * x[j];
                }
            }
            return sum;
        }

        private int slopeOf(Form f, int last) {
            int sum = 0;
            for (int j = 0; j < last; j++) {
                sum += f.entries[LETTERS * last + j] * x[j];
            }
            return sum;
        }

        private void countOn(int last, int m) {
            for (int i = 0; i < last; i++) {
                x[i]++;
                if (x[i] < m) {
                    return;
                }
                x[i] = 0;
            }
        }
    }

    /** The children of the form that was asked last: their rows in turn, each as one int. */
    private static final class Brood {
        Form parent;
        int size;
        private int square;
        private int[] rows = new int[NEXT_SPAN];

        void gather(Form f, int truant, Draft draft, Ellipsoid ellipsoid) {
            parent = f;
            square = truant;
            size = 0;
            if (f.letters >= LETTERS) {
                return;
            }
            ellipsoid.openRows(f, truant);
            draft.load(f);
            draft.letters = f.letters + 1;
            draft.set(f.letters, f.letters, truant);
            for (int guard = 0; guard < GUARD && ellipsoid.advance(); guard++) {
                int row = 0;
                for (int j = 0; j < f.letters; j++) {
                    draft.set(f.letters, j, ellipsoid.x[j]);
                    row |= (ellipsoid.x[j] & 255) << 8 * j;
                }
                if (draft.isLawful()) {
                    add(row);
                }
            }
        }

        private void add(int row) {
            if (size >= rows.length) {
                rows = Arrays.copyOf(rows, 2 * size);
            }
            rows[size] = row;
            size++;
        }

        /** The draft becomes child k, if there is one. */
        boolean shape(int k, Draft draft) {
            if (parent == null || k < 0 || k >= size) {
                return false;
            }
            int n = parent.letters;
            draft.load(parent);
            draft.letters = n + 1;
            for (int j = 0; j < n; j++) {
                draft.set(n, j, (byte) (rows[k] >> 8 * j));
            }
            draft.set(n, n, square);
            return true;
        }
    }

    /** The nodes as they came: what a node is under always stands ahead of it. */
    private static final class Tree {
        int size;
        final Form[] forms = new Form[NODES];
        final int[] above = new int[NODES];
        final int[] which = new int[NODES];
        private final int[] heights = new int[NODES];

        boolean isNode(int node) {
            return node >= 0 && node < size;
        }

        void become(Tree other) {
            for (int node = 0; node < NODES; node++) {
                forms[node] = other.forms[node];
                above[node] = other.above[node];
                which[node] = other.which[node];
            }
            size = other.size;
        }

        void truncate(int n) {
            for (int node = n; node < NODES; node++) {
                forms[node] = null;
            }
            size = n;
        }

        int add(Form f, int node, int k) {
            if (size >= NODES) {
                return FULL;
            }
            forms[size] = f;
            above[size] = node;
            which[size] = k;
            size++;
            return size - 1;
        }

        int under(int node) {
            int found = 0;
            for (int other = node + 1; other < size; other++) {
                if (above[other] == node) {
                    found++;
                }
            }
            return found;
        }

        /** It is the node, or below it. */
        boolean isWithin(int other, int node) {
            int here = other;
            for (int step = 0; step < NODES && here > node; step++) {
                here = above[here];
            }
            return here == node;
        }

        int heightOf(int node) {
            Arrays.fill(heights, 0);
            for (int other = size - 1; other > node; other--) {
                if (above[other] >= 0) {
                    heights[above[other]] = Math.max(heights[above[other]], heights[other] + 1);
                }
            }
            return heights[node];
        }

        int leavesOf(int node) {
            int leaves = 0;
            for (int other = node; other < size; other++) {
                if (isWithin(other, node) && under(other) == 0) {
                    leaves++;
                }
            }
            return leaves;
        }

        private int firstUnder(int node, int from) {
            for (int other = from; other < size; other++) {
                if (above[other] == node) {
                    return other;
                }
            }
            return NONE;
        }

        /** The node behind this one in the walk; 0 behind the last. */
        int following(int node) {
            int found = firstUnder(node, node + 1);
            int here = node;
            for (int step = 0; step < NODES && found == NONE && here > 0; step++) {
                found = firstUnder(above[here], here + 1);
                here = above[here];
            }
            return found == NONE ? 0 : found;
        }

        /** The places that are left over tell, on the way, what the nodes that stay are numbered anew. */
        void remove(int node) {
            int left = node;
            int[] renumbered = heights;
            for (int other = 0; other < node; other++) {
                renumbered[other] = other;
            }
            for (int other = node; other < size; other++) {
                boolean isGone = other == node || renumbered[above[other]] == NONE;
                renumbered[other] = isGone ? NONE : left;
                if (!isGone) {
                    forms[left] = forms[other];
                    which[left] = which[other];
                    above[left] = renumbered[above[other]];
                    left++;
                }
            }
            truncate(left);
        }
    }

    /** A row of numbers, of bytes or ints; it holds ints in both cases, cut to bytes as they come. */
    private static final class Sheet {
        static final int MISSING = -1;
        static final int BYTES = 0;
        static final int INTS = 1;
        int sort = MISSING;
        int size;
        final int[] numbers = new int[SHEET_SIZE];

        boolean isMissing() {
            return sort == MISSING;
        }

        void become(int newSort, int n) {
            sort = newSort;
            size = n;
            Arrays.fill(numbers, 0);
        }

        boolean has(int from, int n) {
            return n >= 0 && n <= size && from >= 0 && from <= size - n;
        }

        void put(int i, int v) {
            numbers[i] = sort == BYTES ? (byte) v : v;
        }
    }
}
