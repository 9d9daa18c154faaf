import java.io.IOException;
import java.lang.reflect.Constructor;
import java.lang.reflect.Field;
import java.lang.reflect.Method;
import java.lang.reflect.Modifier;
import java.nio.file.Files;
import java.nio.file.Path;
import java.util.HashSet;
import java.util.Set;
import java.util.TreeSet;

/** The public face of the document, and LANGUAGE.md's rule 1: nothing else can be seen. */
public final class FaceTest {
    private static final Checks CHECKS = new Checks("FaceTest");
    private static final String ARGUMENT = " throws IllegalArgumentException";
    private static final String INDEX = " throws IndexOutOfBoundsException";
    private static final String BOTH = INDEX + " IllegalArgumentException";

    private static final Set<String> DUE = Set.of(
        "int area(int int int int)" + ARGUMENT + " IllegalStateException",
        "int dial(int)" + ARGUMENT,
        "int limit(int)" + ARGUMENT,
        "int heat(int)" + ARGUMENT,
        "int press(int int int)" + BOTH,
        "int noise(int int)" + BOTH,
        "int frame()",
        "int wipe()",
        "int ofCell(int int int)" + BOTH,
        "int ofPeak(int int)" + BOTH,
        "int ofContact(int int)" + BOTH,
        "double where(int int)" + BOTH,
        "double apart(int int)" + INDEX,
        "int ofRow(int int)" + BOTH,
        "int ofArea(int int)" + BOTH,
        "int many(int)" + ARGUMENT,
        "double guess(int int boolean)" + BOTH,
        "int wouldMatch(int)" + INDEX,
        "int calmIn()",
        "int keepBy(int int)" + BOTH,
        "long digest()");

    public static void main(String[] args) {
        isAllThatIsSeen();
        isWrittenInOrder(source());
        remarksStandAhead(source());
        CHECKS.end();
    }

    private static void isAllThatIsSeen() {
        Set<String> shown = new TreeSet<>();
        Set<String> publicNames = new HashSet<>();
        for (Method method : Palmward.class.getDeclaredMethods()) {
            if (!Modifier.isPrivate(method.getModifiers())) {
                shown.add(signatureOf(method));
                publicNames.add(method.getName());
            }
        }
        CHECKS.same("the methods that can be seen", shown.toString(), new TreeSet<>(DUE).toString());
        for (Method method : Palmward.class.getDeclaredMethods()) {
            boolean isPrivate = Modifier.isPrivate(method.getModifiers());
            CHECKS.isTrue("the name of " + method, !isPrivate || !publicNames.contains(method.getName()));
        }
        for (Field field : Palmward.class.getDeclaredFields()) {
            CHECKS.isTrue("private: " + field, Modifier.isPrivate(field.getModifiers()));
        }
        Constructor<?>[] constructors = Palmward.class.getDeclaredConstructors();
        CHECKS.same("one constructor", constructors.length, 1);
        CHECKS.isTrue("it is public and takes nothing",
            Modifier.isPublic(constructors[0].getModifiers()) && constructors[0].getParameterCount() == 0);
        CHECKS.isTrue("a public final class",
            Modifier.isPublic(Palmward.class.getModifiers()) && Modifier.isFinal(Palmward.class.getModifiers()));
    }

    /** Line by line, with the arguments' names, which cannot be seen from outside. */
    private static void isWrittenInOrder(String source) {
        int at = 0;
        for (String line : Document.partOf("The public face")) {
            if (line.contains("public ")) {
                CHECKS.sentence("The public face", line);
                at = source.indexOf(line.replace(";", " {"), at);
                CHECKS.isTrue("it stands behind the one before", at >= 0);
                at = Math.max(at, 0);
            }
        }
    }

    private static void remarksStandAhead(String source) {
        for (String line : Document.partOf("Terms")) {
            if (line.startsWith("Ahead of the calls ")) {
                CHECKS.sentence("Terms", line);
                String remark = line.substring(line.indexOf("----"), line.length() - 1);
                String[] parts = source.split("// ----");
                for (String part : parts) {
                    if (("----" + part).startsWith(remark + "\n")) {
                        CHECKS.same("the calls behind it", callsIn(part), callsNamedIn(line));
                    }
                }
            }
        }
    }

    private static String callsIn(String source) {
        StringBuilder calls = new StringBuilder();
        for (String line : source.split("\n")) {
            if (line.startsWith("    public ")) {
                calls.append(line.split("[ (]+")[3]).append(' ');
            }
        }
        return calls.toString();
    }

    private static String callsNamedIn(String line) {
        StringBuilder calls = new StringBuilder();
        String[] parts = line.split("`");
        for (int part = 1; part < parts.length; part += 2) {
            calls.append(parts[part]).append(' ');
        }
        return calls.toString();
    }

    private static String source() {
        try {
            return Files.readString(Path.of("src", "main", "java", "Palmward.java"));
        } catch (IOException gone) {
            return "";
        }
    }

    private static String signatureOf(Method method) {
        StringBuilder text = new StringBuilder();
        text.append(method.getReturnType()).append(' ').append(method.getName()).append('(');
        Class<?>[] parameters = method.getParameterTypes();
        for (int parameter = 0; parameter < parameters.length; parameter++) {
            text.append(parameter == 0 ? "" : " ").append(parameters[parameter]);
        }
        text.append(')');
        Class<?>[] thrown = method.getExceptionTypes();
        for (int exception = 0; exception < thrown.length; exception++) {
            text.append(exception == 0 ? " throws " : " ").append(thrown[exception].getSimpleName());
        }
        return text.toString();
    }
}
