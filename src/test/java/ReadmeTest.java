import java.lang.reflect.Method;
import java.lang.reflect.Modifier;
import java.nio.file.Files;
import java.nio.file.Path;
import java.util.List;
import java.util.Set;
import java.util.TreeSet;
import java.util.regex.Matcher;
import java.util.regex.Pattern;
import java.util.stream.Stream;

/** What README.md says holds: each call that it shows is made and answers so, every call is shown, every test is named. */
public final class ReadmeTest {
    private static final Pattern CALL = Pattern.compile("x\\.(\\w+)\\(([-0-9, ]*)\\); *// ([-A-Z0-9]+)(: .*)?");
    private static final String NEW = "EscalatedForms x = new EscalatedForms();";
    private static int wrong = 0;
    private static int looks = 0;

    public static void main(String[] args) throws Exception {
        String text = Files.readString(Path.of("README.md"));
        Set<String> shown = callsAnswerSo(text);
        for (Method method : EscalatedForms.class.getDeclaredMethods()) {
            if (Modifier.isPublic(method.getModifiers()) && !shown.contains(method.getName())) {
                fault("the call is not shown: " + method.getName());
            }
        }
        testsAreNamed(text);
        pathsAreThere(text);
        System.out.println(wrong == 0 ? looks + " calls of README.md answer as it says" : wrong + " faults");
        if (wrong != 0) {
            System.exit(1);
        }
    }

    private static void fault(String text) {
        wrong++;
        System.out.println(text);
    }

    private static Set<String> callsAnswerSo(String text) throws Exception {
        Set<String> shown = new TreeSet<>();
        Matcher blocks = Pattern.compile("(?s)```java\n(.*?)```").matcher(text);
        while (blocks.find()) {
            EscalatedForms x = null;
            for (String line : blocks.group(1).split("\n")) {
                Matcher call = CALL.matcher(line);
                if (line.equals(NEW)) {
                    x = new EscalatedForms();
                } else if (x != null && call.matches()) {
                    shown.add(call.group(1));
                    looks++;
                    long got = answer(x, call.group(1), call.group(2));
                    if (got != number(call.group(3))) {
                        fault(line + " -- it answered " + got);
                    }
                } else if (!line.isBlank() && !line.startsWith("// ")) {
                    fault("it is no call with its answer: " + line);
                }
            }
        }
        return shown;
    }

    private static long answer(EscalatedForms x, String name, String numbers) throws Exception {
        List<Integer> all = numbers.isBlank() ? List.of() : Stream.of(numbers.split(", ")).map(Integer::valueOf).toList();
        for (Method method : EscalatedForms.class.getDeclaredMethods()) {
            if (method.getName().equals(name) && method.getParameterCount() == all.size()) {
                return ((Number) method.invoke(x, all.toArray())).longValue();
            }
        }
        fault("there is no such call: " + name + " with " + all.size() + " numbers");
        return Long.MIN_VALUE;
    }

    /** A number, or the name of a constant. */
    private static long number(String word) throws Exception {
        return Character.isLetter(word.charAt(0)) ? EscalatedForms.class.getField(word).getInt(null) : Long.parseLong(word);
    }

    private static void testsAreNamed(String text) throws Exception {
        try (Stream<Path> files = Files.list(Path.of("src/test/java"))) {
            for (Path file : files.toList()) {
                String name = file.getFileName().toString().replace(".java", "");
                if (!text.contains("`" + name + "`")) {
                    fault("the test is not named: " + name);
                }
            }
        }
    }

    /** Each path that stands by itself between backticks, and the command that runs the tests. */
    private static void pathsAreThere(String text) {
        Matcher paths = Pattern.compile("`((?:\\.\\./|\\.ci/|src/)[^` ]*)`").matcher(text);
        while (paths.find()) {
            if (!Files.exists(Path.of(paths.group(1)))) {
                fault("it is not there: " + paths.group(1));
            }
        }
        if (!text.contains("```sh\n.ci/run\n```") || !Files.isExecutable(Path.of(".ci/run"))) {
            fault("how the tests are run is not told");
        }
    }
}
