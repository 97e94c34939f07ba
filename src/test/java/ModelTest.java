import java.lang.reflect.Method;
import java.util.ArrayList;
import java.util.List;
import java.util.Map;
import java.util.Random;

/** Long runs of mixed calls on the class and on the plain model: every answer must be the same. */
public final class ModelTest {
    private static final int CALLS = 380;
    private static final int[] ODD_INTS = {Integer.MIN_VALUE, Integer.MAX_VALUE, -1, 0, 1, 2, 3, 4, 5, 6, 7, 30, 31, 40, 41, 99, 100, 101, -99, -100};

    /** What each number of a call is, so that most calls get beyond their refusals; see number(). */
    private static final Map<String, String> KINDS = Map.ofEntries(
        Map.entry("single", "sm"), Map.entry("form", "shfl"), Map.entry("spread", "shf"), Map.entry("clear", "s"),
        Map.entry("entry", "slla"), Map.entry("at", "sll"), Map.entry("minor", "sl"), Map.entry("of", "sl"),
        Map.entry("worth", "svvvv"), Map.entry("change", "slla"), Map.entry("swap", "sll"), Map.entry("scale", "sf"),
        Map.entry("join", "sss"), Map.entry("reduce", "s"), Map.entry("same", "ss"), Map.entry("unlike", "ss"),
        Map.entry("takes", "sm"), Map.entry("vector", "sml"), Map.entry("truant", "s"), Map.entry("exceptions", "sml"),
        Map.entry("exception", "sm"), Map.entry("residues", "sf"), Map.entry("barred", "sv"), Map.entry("rule", "lf"),
        Map.entry("claim", "sl"), Map.entry("lacks", "sll"), Map.entry("certify", "slhf"), Map.entry("children", "s"),
        Map.entry("child", "sks"), Map.entry("next", "skl"), Map.entry("plant", "s"), Map.entry("branch", "Nk"),
        Map.entry("ofNode", "Nf"), Map.entry("nodeTo", "Ns"), Map.entry("walk", "N"), Map.entry("cut", "N"),
        Map.entry("sheet", "haz"), Map.entry("cell", "hfv"), Map.entry("item", "hf"), Map.entry("move", "hfhff"),
        Map.entry("keep", ""), Map.entry("back", ""), Map.entry("count", "l"));

    private static final List<Method> CLASS = new ArrayList<>();
    private static final List<Method> MODEL = new ArrayList<>();
    private static int wrong = 0;

    private final Random random;
    private final int run;
    private final EscalatedForms real = new EscalatedForms();
    private final PlainModel model = new PlainModel();

    private ModelTest(int run) {
        this.run = run;
        this.random = new Random(7919L * run + 1);
    }

    public static void main(String[] args) throws Exception {
        int runs = args.length > 0 ? Integer.parseInt(args[0]) : 80;
        int first = args.length > 1 ? Integer.parseInt(args[1]) : 0;
        for (Method method : EscalatedForms.class.getDeclaredMethods()) {
            if (java.lang.reflect.Modifier.isPublic(method.getModifiers())) {
                CLASS.add(method);
            }
        }
        // the order in which methods are told is free, so that runs are the same only if it is fixed
        CLASS.sort((x, y) -> x.getName().compareTo(y.getName()));
        for (Method method : CLASS) {
            Method twin = PlainModel.class.getDeclaredMethod(method.getName(), method.getParameterTypes());
            MODEL.add(twin);
        }
        for (int run = first; run < first + runs && wrong < 20; run++) {
            new ModelTest(run).play();
        }
        System.out.println(wrong == 0 ? runs + " runs: all answers are the model's" : wrong + " answers are not the model's");
        if (wrong != 0) {
            System.exit(1);
        }
    }

    private void play() throws Exception {
        for (int i = 0; i < 4; i++) {
            call("sheet", i, random.nextInt(3) - 1, random.nextInt(42));
        }
        for (int s = 0; s < 5; s++) {
            if (random.nextInt(2) == 0) {
                formOfSomeKind(s);
            } else {
                escalator(s);
            }
        }
        call("plant", random.nextInt(5));
        for (int i = 0; i < CALLS && wrong < 20; i++) {
            int dice = random.nextInt(100);
            if (dice < 3) {
                formOfSomeKind(random.nextInt(6));
            } else if (dice < 6) {
                escalator(random.nextInt(6));
            } else if (dice < 14) {
                anyCall("branch");
            } else {
                anyCall(CLASS.get(random.nextInt(CLASS.size())).getName());
            }
        }
        compareAll();
    }

    /** From one letter on, some child of a child of it, of up to four letters. */
    private void escalator(int s) throws Exception {
        call("single", s, 1 + random.nextInt(2));
        int depth = random.nextInt(4);
        for (int i = 0; i < depth; i++) {
            call("child", s, random.nextInt(Math.max(1, model.children(s))), s);
        }
    }

    private int number(char kind) {
        int dice = random.nextInt(40);
        if (dice == 0) {
            return ODD_INTS[random.nextInt(ODD_INTS.length)];
        }
        if (dice == 1) {
            return random.nextInt();
        }
        switch (kind) {
            case 's': return random.nextInt(6);
            case 'h': return random.nextInt(4);
            case 'l': return random.nextInt(4);
            case 'a': return random.nextInt(5) - 2;
            case 'f': return random.nextInt(random.nextInt(18) + 1);
            case 'm': return random.nextInt(101);
            case 'k': return random.nextInt(random.nextInt(400) + 1);
            case 'z': return random.nextInt(42);
            case 'N': return random.nextInt(Math.max(1, model.count(1)));
            default: return random.nextInt(2) == 0 ? random.nextInt(200) - 100 : random.nextInt() >> random.nextInt(32);
        }
    }

    /** Entries are put on a sheet and made a form; often it is positive, sometimes its letters are far from short. */
    private void formOfSomeKind(int s) throws Exception {
        int n = 1 + random.nextInt(4);
        int top = random.nextInt(3) == 0 ? 99 : random.nextInt(2) == 0 ? 20 : 5;
        int cross = random.nextInt(3) == 0 ? 0 : Math.max(1, top / 3);
        int sheet = random.nextInt(4);
        call("sheet", sheet, random.nextInt(2), 10 + random.nextInt(31));
        int place = random.nextInt(2);
        int from = place;
        for (int i = 0; i < n; i++) {
            for (int j = 0; j < i; j++) {
                call("cell", sheet, place++, random.nextInt(2 * cross + 1) - cross);
            }
            call("cell", sheet, place++, 1 + random.nextInt(top));
        }
        call("form", s, sheet, from, n);
        if (random.nextInt(3) == 0) {
            for (int i = 0; i < 3; i++) {
                call("change", s, random.nextInt(n), random.nextInt(n), random.nextInt(7) - 3);
            }
            call("reduce", s);
        }
    }

    private void anyCall(String name) throws Exception {
        // these end what a run has built: they come seldom
        boolean ends = name.equals("plant") || name.equals("cut") || name.equals("clear") || name.equals("back");
        if (ends && random.nextInt(4) != 0) {
            return;
        }
        String kinds = KINDS.get(name);
        Object[] numbers = new Object[kinds.length()];
        for (int i = 0; i < numbers.length; i++) {
            numbers[i] = number(kinds.charAt(i));
        }
        call(name, numbers);
    }

    private void call(String name, Object... numbers) throws Exception {
        int place = 0;
        while (!CLASS.get(place).getName().equals(name)) {
            place++;
        }
        long got = ((Number) CLASS.get(place).invoke(real, numbers)).longValue();
        long want = ((Number) MODEL.get(place).invoke(model, numbers)).longValue();
        if (got != want) {
            wrong++;
            System.out.println("run " + run + ": " + name + java.util.Arrays.toString(numbers) + " answered " + got + ", the model " + want);
        }
    }

    private void compareAll() throws Exception {
        for (int s = 0; s < 6; s++) {
            for (int i = 0; i < 16; i++) {
                call("at", s, i / 4, i % 4);
            }
            for (int what = 0; what < 4; what++) {
                call("of", s, what);
                call("count", what);
            }
            for (int m = 0; m <= 100; m++) {
                call("takes", s, m);
                for (int j = 0; j < 4; j++) {
                    call("vector", s, m, j);
                }
            }
            for (int m = 2; m <= 16; m++) {
                call("residues", s, m);
            }
        }
        for (int node = 0; node < 31; node++) {
            call("walk", node);
            for (int what = 0; what < 9; what++) {
                call("ofNode", node, what);
            }
        }
        for (int sheet = 0; sheet < 4; sheet++) {
            for (int i = 0; i < 41; i++) {
                call("item", sheet, i);
            }
        }
    }
}
