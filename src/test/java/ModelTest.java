import java.lang.reflect.Method;
import java.util.ArrayList;
import java.util.List;
import java.util.Random;

/** Long runs of mixed calls on the class and on the plain model: every answer must be the same. */
public final class ModelTest {
    private static final int CALLS = 380;
    private static final int[] ODD_INTS = {Integer.MIN_VALUE, Integer.MAX_VALUE, -1, 0, 1, 2, 3, 4, 5, 6, 7, 30, 31, 40, 41, 99, 100, 101, -99, -100};

    private static final List<Method> CLASS = new ArrayList<>();
    private static final List<Method> MODEL = new ArrayList<>();
    private static int wrong = 0;

    private final Random random;
    private final int run;
    private final EscalatedForms real = new EscalatedForms();
    private final PlainModel model = new PlainModel();

    private ModelTest(int run) {
        this.run = run;
        this.random = new Random(7919L * run + 1);
    }

    public static void main(String[] args) throws Exception {
        int runs = args.length > 0 ? Integer.parseInt(args[0]) : 150;
        int first = args.length > 1 ? Integer.parseInt(args[1]) : 0;
        for (Method method : EscalatedForms.class.getDeclaredMethods()) {
            if (java.lang.reflect.Modifier.isPublic(method.getModifiers())) {
                CLASS.add(method);
            }
        }
        // the order in which methods are told is free, so that runs are the same only if it is fixed
        CLASS.sort((x, y) -> x.getName().compareTo(y.getName()));
        for (Method method : CLASS) {
            Method twin = PlainModel.class.getDeclaredMethod(method.getName(), method.getParameterTypes());
            MODEL.add(twin);
        }
        for (int run = first; run < first + runs && wrong < 20; run++) {
            new ModelTest(run).play();
        }
        System.out.println(wrong == 0 ? runs + " runs: all answers are the model's" : wrong + " answers are not the model's");
        if (wrong != 0) {
            System.exit(1);
        }
    }

    private void play() throws Exception {
        for (int i = 0; i < 4; i++) {
            call("sheet", i, random.nextInt(3) - 1, random.nextInt(42));
        }
        for (int i = 0; i < 5; i++) {
            formOfSomeKind(random.nextInt(6));
        }
        for (int i = 0; i < CALLS && wrong < 20; i++) {
            int dice = random.nextInt(100);
            if (dice < 4) {
                formOfSomeKind(random.nextInt(6));
            } else if (dice < 10) {
                call("child", slot(), random.nextInt(random.nextInt(300) + 1), slot());
            } else if (dice < 18) {
                call("branch", random.nextInt(Math.max(1, model.count(1))), random.nextInt(random.nextInt(200) + 1));
            } else if (dice < 22) {
                call("change", slot(), random.nextInt(4), random.nextInt(4), random.nextInt(5) - 2);
            } else if (dice < 24) {
                call("entry", slot(), random.nextInt(4), random.nextInt(4), random.nextInt(9) - 4);
            } else {
                anyCall();
            }
        }
        compareAll();
    }

    private int slot() {
        return random.nextInt(6);
    }

    private int number() {
        int dice = random.nextInt(20);
        if (dice == 0) {
            return ODD_INTS[random.nextInt(ODD_INTS.length)];
        }
        if (dice == 1) {
            return random.nextInt();
        }
        if (dice < 5) {
            return random.nextInt(106) - 3;
        }
        return dice < 8 ? random.nextInt(20) : random.nextInt(6);
    }

    /** Entries are put on a sheet and made a form; often it is positive, sometimes its letters are far from short. */
    private void formOfSomeKind(int s) throws Exception {
        int n = 1 + random.nextInt(4);
        int top = random.nextInt(3) == 0 ? 99 : random.nextInt(2) == 0 ? 20 : 5;
        int cross = random.nextInt(3) == 0 ? 0 : Math.max(1, top / 3);
        int sheet = random.nextInt(4);
        call("sheet", sheet, random.nextInt(2), 10 + random.nextInt(31));
        int place = random.nextInt(2);
        int from = place;
        for (int i = 0; i < n; i++) {
            for (int j = 0; j < i; j++) {
                call("cell", sheet, place++, random.nextInt(2 * cross + 1) - cross);
            }
            call("cell", sheet, place++, 1 + random.nextInt(top));
        }
        call("form", s, sheet, from, n);
        if (random.nextInt(3) == 0) {
            for (int i = 0; i < 3; i++) {
                call("change", s, random.nextInt(n), random.nextInt(n), random.nextInt(7) - 3);
            }
            call("reduce", s);
        }
    }

    private void anyCall() throws Exception {
        Method method = CLASS.get(random.nextInt(CLASS.size()));
        String name = method.getName();
        // these end what a run has built: they come seldom
        boolean ends = name.equals("plant") || name.equals("cut") || name.equals("clear") || name.equals("back");
        if (ends && random.nextInt(4) != 0) {
            return;
        }
        Object[] numbers = new Object[method.getParameterCount()];
        for (int i = 0; i < numbers.length; i++) {
            numbers[i] = number();
        }
        if (numbers.length > 0 && random.nextInt(10) != 0) {
            numbers[0] = name.equals("ofNode") || name.equals("nodeTo") || name.equals("cut")
                ? random.nextInt(Math.max(1, model.count(1))) : random.nextInt(6);
        }
        call(name, numbers);
    }

    private void call(String name, Object... numbers) throws Exception {
        int place = 0;
        while (!CLASS.get(place).getName().equals(name)) {
            place++;
        }
        long got = ((Number) CLASS.get(place).invoke(real, numbers)).longValue();
        long want = ((Number) MODEL.get(place).invoke(model, numbers)).longValue();
        if (got != want) {
            wrong++;
            System.out.println("run " + run + ": " + name + java.util.Arrays.toString(numbers) + " answered " + got + ", the model " + want);
        }
    }

    private void compareAll() throws Exception {
        for (int s = 0; s < 6; s++) {
            for (int i = 0; i < 16; i++) {
                call("at", s, i / 4, i % 4);
            }
            for (int what = 0; what < 4; what++) {
                call("of", s, what);
                call("count", what);
            }
            for (int m = 0; m <= 100; m++) {
                call("takes", s, m);
                for (int j = 0; j < 4; j++) {
                    call("vector", s, m, j);
                }
            }
            for (int m = 2; m <= 16; m++) {
                call("residues", s, m);
            }
        }
        for (int node = 0; node < 31; node++) {
            call("walk", node);
            for (int what = 0; what < 9; what++) {
                call("ofNode", node, what);
            }
        }
        for (int sheet = 0; sheet < 4; sheet++) {
            for (int i = 0; i < 41; i++) {
                call("item", sheet, i);
            }
        }
    }
}
