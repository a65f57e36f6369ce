import java.io.IOException;
import java.lang.reflect.Constructor;
import java.lang.reflect.Field;
import java.lang.reflect.Method;
import java.lang.reflect.Modifier;
import java.nio.file.Files;
import java.nio.file.Path;
import java.util.ArrayList;
import java.util.Arrays;
import java.util.List;
import java.util.Set;
import java.util.TreeSet;
import java.util.regex.Matcher;
import java.util.regex.Pattern;
import java.util.stream.Collectors;

/** The public face of the document, and the rules of LANGUAGE.md that can be looked up in the class and its source. */
public final class FaceTest {
    private static final String SOURCE = "src/main/java/IrrigationTurns.java";
    private static final String RANGE = " throws IllegalArgumentException";
    private static final String INDEX = " throws IndexOutOfBoundsException";
    private static final String BOTH = " throws IllegalArgumentException, IndexOutOfBoundsException";
    private static final String[] METHODS = {
        "int append(int, int, int, int, int)", "int load(int)" + RANGE, "int errorOffset()", "int canalCount()",
        "int fieldCount()", "int clock()", "int cycleLength()", "int turnAt(int)" + RANGE, "int inflow(int)" + RANGE,
        "int guardAt()", "int parent(int)" + INDEX, "int waterIn(int, int)" + BOTH, "int arrived(int)" + INDEX,
        "boolean isOpen(int)" + INDEX, "boolean isForced(int)" + INDEX, "int water(int)" + INDEX,
        "int taken(int)" + INDEX, "int stolen(int)" + INDEX, "int fines(int)" + INDEX, "long total(int)" + RANGE,
        "int fairHours(int, int)" + BOTH, "int hoursUntil(int, int)" + BOTH, "int expected(int, int)" + BOTH,
        "int suspect(int, int, int)" + BOTH,
        "int run(int) throws IllegalArgumentException, IllegalStateException",
        "int force(int) throws IllegalStateException, IndexOutOfBoundsException", "int swapTurns(int, int)" + INDEX,
        "int undo()", "long checksum()",
    };

    private FaceTest() {
    }

    public static void main(String[] args) throws IOException {
        constants();
        methods();
        nothingElseIsOpen();
        classesInside();
        source(Files.readString(Path.of(SOURCE)));
        Check.finish();
    }

    private static void constants() {
        Check.due("SYNTAX_ERROR", IrrigationTurns.SYNTAX_ERROR, -2);
        Check.due("OUT_OF_RANGE", IrrigationTurns.OUT_OF_RANGE, -3);
        Check.due("TOO_MANY", IrrigationTurns.TOO_MANY, -4);
        Check.due("TOO_DEEP", IrrigationTurns.TOO_DEEP, -5);
    }

    private static void methods() {
        Set<String> want = new TreeSet<>(Arrays.asList(METHODS));
        Set<String> got = new TreeSet<>();
        for (Method method : IrrigationTurns.class.getDeclaredMethods()) {
            if (Modifier.isPublic(method.getModifiers())) {
                Check.isTrue(method + " is of the object", !Modifier.isStatic(method.getModifiers()));
                got.add(signature(method));
            }
        }
        Check.isTrue("the public methods are " + got, got.equals(want));
    }

    private static String signature(Method method) {
        String parameters = Arrays.stream(method.getParameterTypes()).map(Class::getSimpleName)
                .collect(Collectors.joining(", ", "(", ")"));
        String thrown = Arrays.stream(method.getExceptionTypes()).map(Class::getSimpleName).sorted()
                .collect(Collectors.joining(", "));
        return method.getReturnType().getSimpleName() + " " + method.getName() + parameters
                + (thrown.isEmpty() ? "" : " throws " + thrown);
    }

    private static void nothingElseIsOpen() {
        Class<?> face = IrrigationTurns.class;
        Check.isTrue("the class is public and final",
                Modifier.isPublic(face.getModifiers()) && Modifier.isFinal(face.getModifiers()));
        Set<String> publicFields = new TreeSet<>();
        for (Field field : face.getDeclaredFields()) {
            if (Modifier.isPublic(field.getModifiers())) {
                publicFields.add(field.getName());
            } else {
                Check.isTrue(field + " is private", Modifier.isPrivate(field.getModifiers()));
            }
        }
        Check.isTrue("the public fields are " + publicFields,
                publicFields.equals(Set.of("SYNTAX_ERROR", "OUT_OF_RANGE", "TOO_MANY", "TOO_DEEP")));
        Set<String> publicNames = new TreeSet<>();
        for (String method : METHODS) {
            publicNames.add(method.substring(method.indexOf(' ') + 1, method.indexOf('(')));
        }
        List<Class<?>> all = new ArrayList<>(Arrays.asList(face.getDeclaredClasses()));
        all.add(face);
        for (Class<?> owner : all) {
            for (Method method : owner.getDeclaredMethods()) {
                if (owner != face || !Modifier.isPublic(method.getModifiers())) {
                    Check.isTrue(method + " has a name of its own", !publicNames.contains(method.getName()));
                    Check.isTrue(method + " is private", owner != face || Modifier.isPrivate(method.getModifiers()));
                }
                Check.isTrue(method + " has at most seven parameters", method.getParameterCount() <= 7);
            }
        }
        for (Constructor<?> constructor : face.getDeclaredConstructors()) {
            Check.isTrue(constructor + " is the public one",
                    Modifier.isPublic(constructor.getModifiers()) && constructor.getParameterCount() == 0);
        }
    }

    private static void classesInside() {
        Class<?>[] inside = IrrigationTurns.class.getDeclaredClasses();
        Check.isTrue("at most twelve classes", inside.length + 1 <= 12);
        for (Class<?> owner : inside) {
            int modifiers = owner.getModifiers();
            Check.isTrue(owner + " is static", Modifier.isStatic(modifiers));
            Check.isTrue(owner + " is hidden", !Modifier.isPublic(modifiers) && !Modifier.isProtected(modifiers));
            int fields = 0;
            for (Field field : owner.getDeclaredFields()) {
                if (Modifier.isStatic(field.getModifiers())) {
                    Check.isTrue(field + " is final", Modifier.isFinal(field.getModifiers()));
                } else {
                    fields++;
                }
            }
            Check.isTrue(owner + " has at most twenty fields", fields <= 20);
        }
    }

    private static void source(String text) {
        String code = text.replaceAll("(?s)/\\*.*?\\*/", "").replaceAll("//[^\n]*", "");
        String[] forbidden = {"->", "::", "\\bimport\\b", "\\bpackage\\b", "\\bcatch\\b", "\\bfinally\\b", "\\bassert\\b",
            "\\bsynchronized\\b", "\\bprotected\\b", "\\bThread\\b", "Exact\\b", "nanoTime", "currentTimeMillis",
            "\\bSystem\\.(?!arraycopy)", "\" *\\+|\\+ *\""};
        for (String pattern : forbidden) {
            Matcher found = Pattern.compile(pattern).matcher(code);
            Check.isTrue("the source is free of " + pattern, !found.find());
        }
        Check.isTrue("the source is ASCII", text.chars().allMatch(sign -> sign < 128));
        int publicWords = 0;
        Matcher found = Pattern.compile("\\bpublic\\b").matcher(code);
        while (found.find()) {
            publicWords++;
        }
        Check.due("public words: the class, four constants, the constructor and the methods", publicWords,
                1 + 4 + 1 + METHODS.length);
    }
}
