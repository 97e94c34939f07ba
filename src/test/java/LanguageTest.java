import java.lang.reflect.Constructor;
import java.lang.reflect.Field;
import java.lang.reflect.Method;
import java.lang.reflect.Modifier;
import java.nio.file.Files;
import java.nio.file.Path;
import java.util.Arrays;
import java.util.Set;
import java.util.TreeSet;
import java.util.regex.Matcher;
import java.util.regex.Pattern;

/** The face of the class is the document's, and what the language's rules rule out by name is not in its text. */
public final class LanguageTest {
    private static final String FACE = """
        int at int int int
        int back
        int barred int int
        int branch int int
        int cell int int int
        int certify int int int int
        int change int int int int
        int child int int int
        int children int
        int claim int int
        int clear int
        int count int
        int cut int
        int entry int int int int
        int exception int int
        int exceptions int int int
        int form int int int int
        int join int int int
        int keep
        int lacks int int int
        int minor int int
        int move int int int int int
        int next int int int
        int nodeTo int int
        int of int int
        int ofNode int int
        int plant int
        int reduce int
        int residues int int
        int rule int int
        int same int int
        int scale int int
        int sheet int int int
        int single int int
        int spread int int int
        int swap int int int
        int takes int int
        int truant int
        int unlike int int
        int vector int int int
        int walk int
        long item int int
        long worth int int int int int
        """;
    private static final String CONSTANTS = """
        BAD=-1
        FULL=-4
        NO=-2147483648
        NONE=-2
        NOTHING=-11
        OUTSIDE=-12
        SIZE=-14
        SORT=-13
        STATE=-3
        UNFIT=-5
        WIDE=-6
        """;
    private static final String[] RULED_OUT = {"\\bthrow\\b", "\\btry\\b", "\\bcatch\\b", "\\bsynchronized\\b", "\\bassert\\b", "->", "::",
        "Exact\\b", "\\bMath\\.(sqrt|pow|random|floor|ceil)\\b", "\\bSystem\\.(?!arraycopy\\b)", "\\bdouble\\b", "\\bfloat\\b", "\\bpackage\\b",
        "\\bThread\\b", "\\bRandom\\b", "\\bhashCode\\b", "\\bequals\\b", "\\btoString\\b", "\\bprotected\\b", "\\bstatic \\{"};
    private static int wrong = 0;

    public static void main(String[] args) throws Exception {
        face();
        constants();
        nested();
        text();
        System.out.println(wrong == 0 ? "the face and the language are as due" : wrong + " faults");
        if (wrong != 0) {
            System.exit(1);
        }
    }

    private static void fault(String text) {
        wrong++;
        System.out.println(text);
    }

    private static void face() {
        Set<String> publicOnes = new TreeSet<>();
        Set<String> names = new TreeSet<>();
        for (Method method : EscalatedForms.class.getDeclaredMethods()) {
            if (Modifier.isPublic(method.getModifiers())) {
                StringBuilder line = new StringBuilder(method.getReturnType() + " " + method.getName());
                Arrays.stream(method.getParameterTypes()).forEach(type -> line.append(' ').append(type));
                publicOnes.add(line.toString());
                names.add(method.getName());
            }
        }
        if (!(String.join("\n", publicOnes) + "\n").equals(FACE)) {
            fault("the public methods are " + publicOnes);
        }
        for (Method method : EscalatedForms.class.getDeclaredMethods()) {
            int modifiers = method.getModifiers();
            if (!Modifier.isPublic(modifiers) && (!Modifier.isPrivate(modifiers) || names.contains(method.getName()))) {
                fault("no such member may be: " + method);
            }
        }
        Constructor<?>[] constructors = EscalatedForms.class.getDeclaredConstructors();
        if (constructors.length != 1 || constructors[0].getParameterCount() != 0 || !Modifier.isPublic(constructors[0].getModifiers())) {
            fault("the constructor is not the document's");
        }
        if (!Modifier.isFinal(EscalatedForms.class.getModifiers())) {
            fault("the class is not final");
        }
    }

    private static void constants() throws Exception {
        Set<String> found = new TreeSet<>();
        for (Field field : EscalatedForms.class.getDeclaredFields()) {
            int modifiers = field.getModifiers();
            if (Modifier.isStatic(modifiers) && !Modifier.isFinal(modifiers)) {
                fault("a static field is not final: " + field);
            }
            if (Modifier.isPublic(modifiers)) {
                found.add(field.getName() + "=" + field.get(null));
            } else if (!Modifier.isPrivate(modifiers)) {
                fault("no such member may be: " + field);
            }
        }
        if (!(String.join("\n", found) + "\n").equals(CONSTANTS)) {
            fault("the constants are " + found);
        }
    }

    private static void nested() {
        Class<?>[] classes = EscalatedForms.class.getDeclaredClasses();
        if (classes.length > 11) {
            fault("there are " + classes.length + " classes inside");
        }
        for (Class<?> one : classes) {
            if (!Modifier.isStatic(one.getModifiers()) || one.getDeclaredFields().length > 20) {
                fault("a class inside is not as it may be: " + one);
            }
        }
    }

    private static void text() throws Exception {
        String text = Files.readString(Path.of("src/main/java/EscalatedForms.java"));
        String code = text.replaceAll("(?s)/\\*.*?\\*/", "").replaceAll("//[^\n]*", "");
        for (String pattern : RULED_OUT) {
            Matcher matcher = Pattern.compile(pattern).matcher(code);
            if (matcher.find()) {
                fault("ruled out: " + matcher.group());
            }
        }
        Matcher imports = Pattern.compile("import ([^;]+);").matcher(code);
        while (imports.find()) {
            if (!Set.of("java.util.Arrays", "java.util.ArrayList", "java.util.List").contains(imports.group(1))) {
                fault("ruled out: import " + imports.group(1));
            }
        }
    }
}
