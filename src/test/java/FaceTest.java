import java.lang.reflect.Constructor;
import java.lang.reflect.Field;
import java.lang.reflect.Method;
import java.lang.reflect.Modifier;
import java.nio.file.Files;
import java.nio.file.Path;
import java.util.ArrayList;
import java.util.Arrays;
import java.util.List;
import java.util.Set;
import java.util.TreeSet;
import java.util.regex.Matcher;
import java.util.regex.Pattern;

/** 'The public face' of the document, held against the class: its constants, its constructor, its methods, and no more. */
public final class FaceTest {
    private static int wrong = 0;

    public static void main(String[] args) throws Exception {
        String text = Files.readString(Path.of("../shared/DOC.md"));
        String face = text.substring(text.indexOf("```java"), text.indexOf("## Terms"));
        methods(face);
        constants(face);
        rest();
        headings(text);
        System.out.println(wrong == 0 ? "the face is the document's" : wrong + " faults");
        if (wrong != 0) {
            System.exit(1);
        }
    }

    private static void fault(String text) {
        wrong++;
        System.out.println(text);
    }

    private static void same(Set<String> got, Set<String> want, String what) {
        if (!got.equals(want) || want.isEmpty()) {
            fault(what + " are " + got + ", due are " + want);
        }
    }

    private static void methods(String face) {
        Set<String> want = new TreeSet<>();
        Matcher lines = Pattern.compile("public (int|long) (\\w+)\\(([^)]*)\\);").matcher(face);
        while (lines.find()) {
            want.add((lines.group(1) + " " + lines.group(2) + " " + lines.group(3).replaceAll(" \\w+(, |$)", " ")).trim());
        }
        Set<String> got = new TreeSet<>();
        for (Method method : EscalatedForms.class.getDeclaredMethods()) {
            if (Modifier.isPublic(method.getModifiers())) {
                StringBuilder line = new StringBuilder(method.getReturnType() + " " + method.getName());
                Arrays.stream(method.getParameterTypes()).forEach(type -> line.append(' ').append(type));
                got.add(line.toString());
            }
            if (Modifier.isPublic(method.getModifiers()) && Modifier.isStatic(method.getModifiers())) {
                fault("it is static: " + method);
            }
        }
        same(got, want, "the methods");
        if (want.size() != 43) {
            fault("the document has " + want.size() + " methods, not 43");
        }
    }

    private static void constants(String face) throws Exception {
        Set<String> want = new TreeSet<>();
        Matcher pairs = Pattern.compile("([A-Z]+) = (-[0-9]+|Integer\\.MIN_VALUE)").matcher(face);
        while (pairs.find()) {
            want.add(pairs.group(1) + "=" + (pairs.group(2).startsWith("-") ? pairs.group(2) : "" + Integer.MIN_VALUE));
        }
        Set<String> got = new TreeSet<>();
        for (Field field : EscalatedForms.class.getDeclaredFields()) {
            if (Modifier.isPublic(field.getModifiers())) {
                got.add(field.getName() + "=" + field.get(null));
                if (!Modifier.isStatic(field.getModifiers()) || !Modifier.isFinal(field.getModifiers()) || field.getType() != int.class) {
                    fault("it is no constant of int: " + field);
                }
            }
        }
        same(got, want, "the constants");
    }

    /** But for the face all is private, and the classes inside are static. */
    private static void rest() {
        int modifiers = EscalatedForms.class.getModifiers();
        if (!Modifier.isFinal(modifiers) || !Modifier.isPublic(modifiers) || EscalatedForms.class.getPackageName().length() != 0) {
            fault("the class is not public and final, without a package");
        }
        Constructor<?>[] constructors = EscalatedForms.class.getDeclaredConstructors();
        if (constructors.length != 1 || constructors[0].getParameterCount() != 0 || !Modifier.isPublic(constructors[0].getModifiers())) {
            fault("the constructor is not the document's");
        }
        for (Method method : EscalatedForms.class.getDeclaredMethods()) {
            if (!Modifier.isPublic(method.getModifiers()) && !Modifier.isPrivate(method.getModifiers())) {
                fault("no such member may be: " + method);
            }
        }
        for (Field field : EscalatedForms.class.getDeclaredFields()) {
            if (!Modifier.isPublic(field.getModifiers()) && !Modifier.isPrivate(field.getModifiers())) {
                fault("no such member may be: " + field);
            }
        }
        for (Class<?> one : EscalatedForms.class.getDeclaredClasses()) {
            if (!Modifier.isStatic(one.getModifiers()) || Modifier.isPublic(one.getModifiers()) || Modifier.isProtected(one.getModifiers())) {
                fault("a class inside is not as it may be: " + one);
            }
        }
    }

    /** 'Ahead of the calls .. the interface says: ---- forms': so do the lines of the class. */
    private static void headings(String text) throws Exception {
        String code = Files.readString(Path.of("src/main/java/EscalatedForms.java"));
        Matcher lines = Pattern.compile("Ahead of the calls (.*) the interface says: ---- (.*)\\.\n").matcher(text + "\n");
        int found = 0;
        while (lines.find()) {
            found++;
            int start = code.indexOf("    // ---- " + lines.group(2) + "\n");
            if (start < 0) {
                fault("the class does not say: ---- " + lines.group(2));
                continue;
            }
            int end = code.indexOf("    // ---- ", start + 1);
            List<String> names = new ArrayList<>();
            Matcher methods = Pattern.compile("\n    public \\w+ (\\w+)\\(").matcher(code.substring(start, end < 0 ? code.length() : end));
            while (methods.find()) {
                names.add("`" + methods.group(1) + "`");
            }
            if (!String.join(", ", names).equals(lines.group(1))) {
                fault("under ---- " + lines.group(2) + " are " + names);
            }
        }
        if (found != 6) {
            fault("the document has " + found + " such lines, not 6");
        }
    }
}
