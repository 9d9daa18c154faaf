import java.io.File;
import java.io.IOException;
import java.lang.reflect.InvocationTargetException;
import java.lang.reflect.Method;
import java.nio.file.Files;
import java.nio.file.Path;
import java.util.regex.Matcher;
import java.util.regex.Pattern;

/** README.md: its example answers what it says, and no call and no test is left out. */
public final class ReadmeTest {
    private static final Checks CHECKS = new Checks("ReadmeTest");
    private static final Pattern CALL = Pattern.compile("glass\\.(\\w+)\\((.*)\\);\\s+// (\\S+): .+");

    public static void main(String[] args) {
        String readme = readme();
        exampleHolds(readme);
        namesEveryCall(readme);
        namesEveryTest(readme);
        CHECKS.end();
    }

    private static String readme() {
        try {
            return Files.readString(Path.of("README.md"));
        } catch (IOException gone) {
            return "";
        }
    }

    private static void exampleHolds(String readme) {
        Palmward glass = new Palmward();
        int calls = 0;
        for (String line : readme.split("\n")) {
            Matcher call = CALL.matcher(line);
            if (call.matches()) {
                CHECKS.same(line, answerOf(glass, call.group(1), call.group(2).split(", ")), call.group(3));
                calls++;
            }
        }
        CHECKS.same("calls of the example", calls, readme.split("\nglass\\.").length - 1);
        CHECKS.isTrue("there is an example", calls > 0);
    }

    private static String answerOf(Palmward glass, String name, String[] words) {
        for (Method method : Palmward.class.getDeclaredMethods()) {
            if (method.getName().equals(name)) {
                Object[] arguments = new Object[method.getParameterCount()];
                for (int at = 0; at < arguments.length; at++) {
                    boolean isTruth = method.getParameterTypes()[at] == boolean.class;
                    arguments[at] = isTruth ? Boolean.valueOf(words[at]) : Integer.valueOf(words[at]);
                }
                return answerOf(glass, method, arguments);
            }
        }
        return "no such call";
    }

    private static String answerOf(Palmward glass, Method method, Object[] arguments) {
        try {
            return String.valueOf(method.invoke(glass, arguments));
        } catch (InvocationTargetException thrown) {
            return "throws." + thrown.getCause().getClass().getSimpleName();
        } catch (IllegalAccessException hidden) {
            return "cannot be called";
        }
    }

    private static void namesEveryCall(String readme) {
        for (String line : Document.partOf("The public face")) {
            if (line.contains("public ") && line.contains("(") && !line.contains("Palmward")) {
                String withoutTypes = line.replaceAll("\\b(public|int|double|long|boolean) ", "").strip();
                String call = withoutTypes.substring(0, withoutTypes.indexOf(')') + 1);
                CHECKS.isTrue("it names " + call, readme.contains("`" + call + "`"));
            }
        }
    }

    private static void namesEveryTest(String readme) {
        File[] files = new File("src/test/java").listFiles();
        CHECKS.isTrue("there are tests", files != null);
        for (File file : files == null ? new File[0] : files) {
            if (file.getName().endsWith("Test.java")) {
                String test = file.getName().replace(".java", "");
                CHECKS.isTrue("it names " + test, readme.contains("| `" + test + "` |"));
            }
        }
        for (String line : readme.split("\n")) {
            if (line.matches("\\| `\\w+Test` \\|.*")) {
                String test = line.split("`")[1];
                CHECKS.isTrue("there is " + test, Files.exists(Path.of("src/test/java", test + ".java")));
            }
        }
    }
}
