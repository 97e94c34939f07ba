import java.lang.reflect.Method;
import java.lang.reflect.Modifier;
import java.util.ArrayList;
import java.util.List;
import java.util.Set;
import java.util.TreeSet;

/**
 * 'Answers that refuse: .. of several the one that is named first. .. A SLOT that holds none, where a FORM is asked for,
 * is BAD. A call that refuses changes nothing; what is only asked changes nothing, too.' Each call is made with each of
 * its faults, with each two of them at once, and with the least and the greatest int as each of its numbers.
 */
public final class RefusalTest {
    /**
     * A call that is not refused, then what is wrong with one of its numbers, in the order in which the document names
     * it: the number's place, what stands there, and the answer. Slot 5 holds none, sheet 2 is missing, sheet 3 is empty,
     * slot 3 has no truant, slot 4 has four letters and a truant.
     */
    private static final String FAULTS = """
        single 5 1       | 0:-1,6 BAD; 1:0,100,-1 BAD
        form 5 0 0 2     | 0:-1,6 BAD; 1:-1,4 BAD; 3:0,5 BAD; 1:2 NOTHING; 1:3 OUTSIDE; 2:-1,10,12 OUTSIDE; 2:3 BAD; 2:6 UNFIT
        spread 2 0 0     | 0:-1,6,5 BAD; 1:-1,4 BAD; 1:2 NOTHING; 1:3 OUTSIDE; 2:-1,7,12 OUTSIDE
        clear 5          | 0:-1,6 BAD
        entry 1 0 1 1    | 0:-1,6,5 BAD; 1:-1,2 BAD; 2:-1,2 BAD; 3:-100,100 BAD; 3:-2,2 UNFIT
        at 1 0 1         | 0:-1,6,5 NO; 1:-1,2 NO; 2:-1,2 NO
        minor 1 0        | 0:-1,6,5 BAD; 1:-1,3 BAD
        of 1 1           | 0:-1,6 BAD; 1:-1,4 BAD; 0:5 NONE
        worth 3 1 1 1 1  | 0:-1,6,5 BAD; 2:-2147483648 WIDE; 3:2147483647 WIDE; 4:-2147483648 WIDE
        change 1 0 1 1   | 0:-1,6,5 BAD; 1:-1,2,1 BAD; 2:-1,2 BAD; 3:-10,10 BAD; 3:-8,8 UNFIT
        change 1 0 1 1   | 0:-1,6,5 BAD; 1:-1,2 BAD; 2:-1,2,0 BAD; 3:-10,10 BAD; 3:-8,8 UNFIT
        swap 1 0 1       | 0:-1,6,5 BAD; 1:-1,2 BAD; 2:-1,2 BAD
        scale 1 2        | 0:-1,6,5 BAD; 1:0,-1,100 BAD; 1:50,99 UNFIT
        join 0 1 5       | 0:-1,6,5 BAD; 1:-1,6,5 BAD; 2:-1,6 BAD; 0:4 FULL; 1:3 FULL
        reduce 1         | 0:-1,6,5 BAD
        same 0 1         | 0:-1,6,5 BAD; 1:-1,6,5 BAD
        unlike 0 1       | 0:-1,6,5 BAD; 1:-1,6,5 BAD; 1:0 NONE
        takes 1 3        | 0:-1,6,5 BAD; 1:-1,101 BAD
        vector 3 7 0     | 0:-1,6,5 NO; 1:-1,101 NO; 2:-1,4 NO
        vector 0 4 0     | 0:-1,6,5 NO; 1:-1,101 NO; 2:-1,1 NO; 1:2 NO
        truant 0         | 0:-1,6,5 BAD; 0:3 NONE
        exceptions 0 9 0 | 0:-1,6,5 BAD; 1:0,101 BAD; 2:-1,3 BAD
        exception 0 0    | 0:-1,6,5 BAD; 1:-1,90 NONE
        residues 0 2     | 0:-1,6,5 BAD; 1:1,17 BAD
        barred 0 2       | 0:-1,6,5 BAD; 1:1 NONE
        rule 0 0         | 0:-1,3 BAD; 1:-1,9 NONE
        claim 0 0        | 0:-1,6,5 BAD; 1:-1,3 BAD
        lacks 0 0 0      | 0:-1,6,5 BAD; 1:-1,3 BAD; 2:-1,8 NONE
        certify 3 0 0 0  | 0:-1,6,5 BAD; 1:-1,3 BAD; 2:-1,4 BAD; 0:0 STATE; 2:2 NOTHING; 3:-1,13 OUTSIDE
        children 0       | 0:-1,6,5 BAD; 0:3 STATE; 0:4 FULL
        child 0 0 5      | 0:-1,6,5 BAD; 2:-1,6 BAD; 0:3 STATE; 0:4 FULL; 1:-1,3 NONE
        next 0 0 0       | 0:-1,6,5 BAD; 1:-1 BAD; 2:-1,4 BAD; 0:3 STATE; 0:4 FULL
        plant 0          | 0:-1,6,5 BAD
        branch 0 0       | 0:-1,5 BAD; 0:3 STATE; 1:-1,3 NONE
        ofNode 1 0       | 0:-1,5 BAD; 1:-1,9 BAD
        nodeTo 0 5       | 0:-1,5 BAD; 1:-1,6 BAD
        walk 0           | 0:-1,5 NONE
        cut 0            | 0:-1,5 BAD
        sheet 2 0 1      | 0:-1,4 BAD; 1:-2,2 BAD; 2:41 BAD; 2:-1 SIZE
        cell 0 0 1       | 0:-1,4 BAD; 0:2 NOTHING; 0:3 OUTSIDE; 1:-1,12 OUTSIDE
        item 0 0         | 0:-1,4 NO_ITEM; 0:2 NO_ITEM; 0:3 NO_ITEM; 1:-1,12 NO_ITEM
        move 0 0 0 1 2   | 0:-1,4 BAD; 2:-1,4 BAD; 0:2 NOTHING; 2:2 NOTHING; 2:1 SORT; 4:-1 OUTSIDE; 1:-1,11 OUTSIDE; 3:-1,11 OUTSIDE; 4:12 OUTSIDE
        move 0 0 0 1 2   | 0:-1,4 BAD; 2:-1,4 BAD; 0:2 NOTHING; 2:2 NOTHING; 0:1 SORT; 0:3 OUTSIDE; 2:3 OUTSIDE; 4:-1 OUTSIDE
        count 0          | 0:-1,4 BAD
        """;

    /** What the least and the greatest int answer in place of each of a call's numbers (one word: both the same). */
    private static final String ENDS = """
        single 0 1       | BAD BAD
        form 5 0 0 2     | BAD BAD OUTSIDE BAD
        spread 2 0 0     | BAD BAD OUTSIDE
        clear 0          | BAD
        entry 1 0 1 1    | BAD BAD BAD BAD
        at 1 0 1         | NO NO NO
        minor 1 0        | BAD BAD
        of 1 1           | BAD BAD
        of 5 0           | BAD BAD
        worth 0 3 5 6 7  | BAD 4611686018427387904/4611686014132420609 9 9 9
        worth 3 0 0 0 0  | BAD 4611686018427387904/4611686014132420609 WIDE/9223372028264841218 WIDE WIDE
        change 1 0 1 1   | BAD BAD BAD BAD
        swap 1 0 1       | BAD BAD BAD
        scale 1 2        | BAD BAD
        join 0 1 5       | BAD BAD BAD
        reduce 1         | BAD
        same 0 1         | BAD BAD
        unlike 0 1       | BAD BAD
        takes 1 3        | BAD BAD
        vector 3 7 0     | NO NO NO
        truant 0         | BAD
        exceptions 0 9 0 | BAD BAD BAD
        exception 0 0    | BAD NONE
        residues 0 2     | BAD BAD
        barred 0 2       | BAD 5/4
        rule 0 0         | BAD NONE
        claim 0 0        | BAD BAD
        lacks 0 0 0      | BAD BAD NONE
        certify 3 0 0 0  | BAD BAD BAD OUTSIDE
        children 0       | BAD
        child 0 0 5      | BAD NONE BAD
        next 0 0 0       | BAD BAD/0 BAD
        next 0 0 3       | BAD BAD/NONE BAD
        plant 0          | BAD
        branch 0 0       | BAD NONE
        ofNode 0 0       | BAD BAD
        nodeTo 0 5       | BAD BAD
        walk 0           | NONE
        cut 0            | BAD
        sheet 2 0 1      | BAD BAD SIZE/BAD
        sheet 2 -1 1     | BAD BAD 1
        cell 0 0 2       | BAD OUTSIDE -
        item 0 0         | NO_ITEM NO_ITEM
        move 0 0 0 1 2   | BAD OUTSIDE BAD OUTSIDE OUTSIDE
        count 0          | BAD
        """;

    private static final Set<String> ASKING = Set.of("at", "minor", "of", "worth", "same", "unlike", "takes", "vector", "truant",
        "exceptions", "exception", "residues", "barred", "rule", "claim", "lacks", "children", "next", "ofNode", "walk", "item", "count");

    private static final Set<String> named = new TreeSet<>();

    private record Fault(int place, int number, long answer) {
    }

    public static void main(String[] args) throws Exception {
        for (String line : FAULTS.split("\n")) {
            faultsOf(line);
        }
        allAreNamed();
        for (String line : ENDS.split("\n")) {
            endsOf(line);
        }
        allAreNamed();
        Scene.end("refused calls answer the first fault that is named, and change nothing");
    }

    /** Each call that has numbers stands in the table that was read last. */
    private static void allAreNamed() {
        for (Method method : EscalatedForms.class.getDeclaredMethods()) {
            if (Modifier.isPublic(method.getModifiers()) && method.getParameterCount() > 0) {
                new Scene("the tables").due(named.contains(method.getName()) ? 1 : 0, 1, method.getName() + " is named");
            }
        }
        named.clear();
    }

    /** Slots, a tree and sheets of all kinds, other than what is kept. */
    private static Scene richScene(String name) {
        Scene scene = new Scene(name);
        scene.does(1, x -> x.single(0, 1));
        scene.form(5, 2, 1, 3);
        scene.does(0, x -> x.plant(5));
        scene.does(1, x -> x.branch(0, 0));
        scene.does(2, x -> x.keep());
        scene.does(2, x -> x.clear(5));
        scene.form(1, 1, 0, 2);
        scene.form(2, 1, 0, 1, 0, 0, 1);
        scene.form(3, 1, 0, 2, 0, 0, 4, 0, 0, 0, 8);
        scene.form(4, 1, 0, 2, 0, 0, 5, 0, 0, 0, 5);
        scene.does(2, x -> x.plant(0));
        scene.does(1, x -> x.branch(0, 1));
        scene.does(2, x -> x.branch(1, 5));
        scene.does(3, x -> x.branch(2, 20));
        scene.does(4, x -> x.branch(0, 0));
        scene.row(0, 2, 1, 3, 100, 0, 1, 1, 2, 1, 0, 0, 0);
        scene.does(1, x -> x.sheet(1, 0, 40));
        scene.does(1, x -> x.cell(1, 0, -128));
        scene.does(1, x -> x.cell(1, 39, 127));
        scene.does(1, x -> x.sheet(3, 1, 0));
        return scene;
    }

    // ---- faults, one and two at once

    private static void faultsOf(String line) throws Exception {
        String[] halves = line.split("\\|");
        String[] call = halves[0].trim().split(" ");
        Method method = methodOf(call[0]);
        int[] good = numbersOf(call);
        List<Fault> faults = new ArrayList<>();
        for (String part : halves[1].trim().split("; ")) {
            String[] words = part.split("[: ]");
            for (String number : words[1].split(",")) {
                faults.add(new Fault(Integer.parseInt(words[0]), Integer.parseInt(number), answerOf(words[2])));
            }
        }
        Scene scene = richScene("of several the one that is named first: " + line);
        for (int i = 0; i < faults.size(); i++) {
            int[] one = good.clone();
            one[faults.get(i).place] = faults.get(i).number;
            leaves(scene, method, one, faults.get(i).answer);
            for (int j = i + 1; j < faults.size(); j++) {
                if (faults.get(j).place != faults.get(i).place) {
                    int[] two = one.clone();
                    two[faults.get(j).place] = faults.get(j).number;
                    leaves(scene, method, two, faults.get(i).answer);
                }
            }
        }
        // without a fault the call is not refused, and what is only asked changes nothing
        long answer = invoke(method, playedScene(), good);
        scene.due(answer >= 0 ? 1 : 0, 1, "the call without a fault answered " + answer + ":");
        if (ASKING.contains(call[0])) {
            leaves(scene, method, good, answer);
        }
    }

    private static EscalatedForms playedScene() {
        EscalatedForms[] one = new EscalatedForms[1];
        Scene scene = richScene("without a fault");
        scene.does(6, x -> {
            one[0] = x;
            return 6;
        });
        return one[0];
    }

    private static void leaves(Scene scene, Method method, int[] numbers, long want) {
        scene.leaves(want, x -> invoke(method, x, numbers));
    }

    // ---- the least and the greatest int

    private static void endsOf(String line) throws Exception {
        String[] halves = line.split("\\|");
        String[] call = halves[0].trim().split(" ");
        Method method = methodOf(call[0]);
        int[] good = numbersOf(call);
        String[] answers = halves[1].trim().split(" ");
        Scene scene = richScene("the least and the greatest int: " + line);
        for (int place = 0; place < good.length; place++) {
            String[] words = answers[place].split("/");
            for (int side = 0; side < 2; side++) {
                String word = words[words.length == 1 ? 0 : side];
                if (!word.equals("-")) {
                    int[] numbers = good.clone();
                    numbers[place] = side == 0 ? Scene.MIN : Scene.MAX;
                    leaves(scene, method, numbers, answerOf(word));
                }
            }
        }
        // all numbers at once: the first is named first
        for (int end : new int[] {Scene.MIN, Scene.MAX}) {
            int[] numbers = good.clone();
            java.util.Arrays.fill(numbers, end);
            leaves(scene, method, numbers, answerOf(answers[0].split("/")[0]));
        }
    }

    // ---- how the tables are read

    private static Method methodOf(String name) {
        named.add(name);
        for (Method method : EscalatedForms.class.getDeclaredMethods()) {
            if (Modifier.isPublic(method.getModifiers()) && method.getName().equals(name)) {
                return method;
            }
        }
        throw new IllegalStateException("no such call: " + name);
    }

    private static int[] numbersOf(String[] call) {
        int[] numbers = new int[call.length - 1];
        for (int i = 0; i < numbers.length; i++) {
            numbers[i] = Integer.parseInt(call[i + 1]);
        }
        return numbers;
    }

    private static long answerOf(String word) {
        switch (word) {
            case "BAD": return Scene.BAD;
            case "NONE": return Scene.NONE;
            case "STATE": return Scene.STATE;
            case "FULL": return Scene.FULL;
            case "UNFIT": return Scene.UNFIT;
            case "WIDE": return Scene.WIDE;
            case "NOTHING": return Scene.NOTHING;
            case "OUTSIDE": return Scene.OUTSIDE;
            case "SORT": return Scene.SORT;
            case "SIZE": return Scene.SIZE;
            case "NO": return Scene.NO;
            case "NO_ITEM": return Scene.NO_ITEM;
            default: return Long.parseLong(word);
        }
    }

    private static long invoke(Method method, EscalatedForms x, int[] numbers) {
        Object[] boxed = new Object[numbers.length];
        for (int i = 0; i < boxed.length; i++) {
            boxed[i] = numbers[i];
        }
        try {
            return ((Number) method.invoke(x, boxed)).longValue();
        } catch (ReflectiveOperationException thrown) {
            throw new IllegalStateException(method.getName() + " threw", thrown);
        }
    }
}
