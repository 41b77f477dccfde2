import java.io.IOException;
import java.lang.reflect.Constructor;
import java.lang.reflect.Field;
import java.lang.reflect.Method;
import java.lang.reflect.Modifier;
import java.nio.file.Files;
import java.nio.file.Path;
import java.util.Set;
import java.util.TreeSet;
import java.util.regex.Matcher;
import java.util.regex.Pattern;

/** The public face, and those rules of LANGUAGE.md that can be seen from the class or its text. */
public final class FaceTest {
    private static final String[] FACE = {
        "int put(int,int,int,int,int)", "int drop()", "int model()", "int plan()", "int breaks(int)",
        "long cost(int) IndexOutOfBoundsException", "int digest()", "int begin()", "int read()", "int fault(int)",
        "long row(int,int) IndexOutOfBoundsException", "int assumes(int,int) IndexOutOfBoundsException",
        "int holds(int,int) IndexOutOfBoundsException", "int proved()", "long best() IllegalStateException",
        "long least() IllegalStateException", "int trim(int) IndexOutOfBoundsException",
        "int number(int) IndexOutOfBoundsException", "int told(int)",
    };

    public static void main(String[] args) throws IOException {
        Class<?> face = PlanCertificates.class;
        Checks.due("public and final", face.getModifiers(), Modifier.PUBLIC | Modifier.FINAL);
        constants(face);
        methods(face);
        Constructor<?>[] constructors = face.getDeclaredConstructors();
        Checks.due("constructors", constructors.length, 1);
        Checks.due("its parameters", constructors[0].getParameterCount(), 0);
        Checks.due("public", constructors[0].getModifiers(), Modifier.PUBLIC);
        inside(face);
        String text = Files.readString(Path.of("src/main/java/PlanCertificates.java"));
        words(text);
        methodsAreShort(text);
        onlyFunctionsOfTheLibrary(text);
        Checks.finish();
    }

    private static void constants(Class<?> face) {
        Checks.due("NONE", PlanCertificates.NONE, -1);
        Checks.due("UNKNOWN", PlanCertificates.UNKNOWN, -2);
        Checks.due("OUTSIDE", PlanCertificates.OUTSIDE, -3);
        Checks.due("STATE", PlanCertificates.STATE, -4);
        Checks.due("ROOM", PlanCertificates.ROOM, -5);
        Set<String> names = new TreeSet<>();
        for (Field field : face.getDeclaredFields()) {
            if (!Modifier.isPrivate(field.getModifiers())) {
                names.add(field.getName());
                Checks.due(field.getName(), field.getModifiers(), Modifier.PUBLIC | Modifier.STATIC | Modifier.FINAL);
            }
        }
        dueSame("constants", names, Set.of("NONE", "UNKNOWN", "OUTSIDE", "STATE", "ROOM"));
    }

    private static void methods(Class<?> face) {
        Set<String> told = new TreeSet<>();
        Set<String> publicNames = new TreeSet<>();
        Set<String> privateNames = new TreeSet<>();
        for (Method method : face.getDeclaredMethods()) {
            if (Modifier.isPrivate(method.getModifiers())) {
                privateNames.add(method.getName());
            } else {
                publicNames.add(method.getName());
                told.add(tell(method));
            }
        }
        dueSame("methods", told, Set.of(FACE));
        privateNames.retainAll(publicNames);
        dueSame("private methods that bear a public name", privateNames, Set.of());
    }

    private static String tell(Method method) {
        StringBuilder told = new StringBuilder();
        told.append(method.getReturnType()).append(' ').append(method.getName()).append('(');
        for (Class<?> parameter : method.getParameterTypes()) {
            told.append(told.charAt(told.length() - 1) == '(' ? "" : ",").append(parameter);
        }
        told.append(')');
        for (Class<?> exception : method.getExceptionTypes()) {
            told.append(' ').append(exception.getSimpleName());
        }
        return told.toString();
    }

    private static void dueSame(String what, Set<String> got, Set<String> want) {
        if (!got.equals(want)) {
            System.out.println(what + ": " + got + ", due is " + want);
        }
        Checks.due(what, got.equals(want) ? 1 : 0, 1);
    }

    private static void inside(Class<?> face) {
        Class<?>[] classes = face.getDeclaredClasses();
        Checks.due("at most twelve classes", classes.length < 12 ? 1 : 0, 1);
        for (Class<?> inner : classes) {
            Checks.due(inner + " is static", Modifier.isStatic(inner.getModifiers()) ? 1 : 0, 1);
            Checks.due(inner + " is not public", Modifier.isPublic(inner.getModifiers()) ? 1 : 0, 0);
            Checks.due(inner + " has few fields", inner.getDeclaredFields().length <= 20 ? 1 : 0, 1);
            for (Field field : inner.getDeclaredFields()) {
                Checks.due(field + " is not static", Modifier.isStatic(field.getModifiers()) ? 1 : 0, 0);
            }
            for (Method method : inner.getDeclaredMethods()) {
                Checks.due(method + " has few parameters", method.getParameterCount() <= 7 ? 1 : 0, 1);
            }
        }
    }

    private static void words(String text) {
        String[] never = {
            "import ", "package ", "catch", "finally", "synchronized", "assert ", "->", "::", "Exact(",
            "java.", "System.", "double", "float", "while", ".equals", ".hashCode", "toString", "try ",
        };
        for (String word : never) {
            Checks.due("'" + word + "' in the text", text.indexOf(word) >= 0 ? 1 : 0, 0);
        }
    }

    private static void methodsAreShort(String text) {
        int length = 0;
        for (String line : text.split("\n")) {
            // Methods stand apart by empty lines, and have none inside.
            length = line.isEmpty() ? 0 : length + 1;
            Checks.due("a method of more than sixty lines", length > 60 ? 1 : 0, 0);
        }
    }

    /** Rule 4 lists the static functions of Integer, Long and Math, but no constant of theirs. */
    private static void onlyFunctionsOfTheLibrary(String text) {
        Matcher used = Pattern.compile("\\b(Integer|Long|Math)\\.\\w+(\\(?)").matcher(text);
        while (used.find()) {
            Checks.due(used.group() + " is a function", used.group(2).length(), 1);
        }
    }
}
