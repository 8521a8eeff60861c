import java.io.File;
import java.io.IOException;
import java.lang.reflect.InvocationTargetException;
import java.lang.reflect.Method;
import java.lang.reflect.Modifier;
import java.nio.file.Files;
import java.nio.file.Path;
import java.util.ArrayList;
import java.util.HashSet;
import java.util.List;
import java.util.Set;
import java.util.regex.Matcher;
import java.util.regex.Pattern;

/** README.md: each call that it shows is made, in its order, and answers what stands behind it there. */
final class ReadmeTest {
    private static final Path README = Path.of("README.md");
    private static final String NEW_KITE = "KitePainter kite = new KitePainter();";
    /** A call, what it answers, and what is told of that. */
    private static final Pattern CALL = Pattern.compile("kite\\.(\\w+)\\(([^()]*)\\); +// (throws )?([-.\\w]+)(?:: (.+))?");

    private final Set<String> shown = new HashSet<>();
    private KitePainter kite;

    private ReadmeTest() {
    }

    public static void main(String[] args) throws IOException, IllegalAccessException, NoSuchFieldException {
        List<String> lines = Files.readAllLines(README);
        ReadmeTest test = new ReadmeTest();
        for (String line : codeOf(lines)) {
            test.follow(line);
        }
        test.allMethodsAreShown();
        testsAreNamed(String.join("\n", lines));
        Check.end("ReadmeTest");
    }

    /** The lines between ```java and ```, but for the empty ones. */
    private static List<String> codeOf(List<String> lines) {
        List<String> code = new ArrayList<>();
        boolean isCode = false;
        for (String line : lines) {
            if (line.startsWith("```")) {
                isCode = line.equals("```java");
            } else if (isCode && !line.isEmpty()) {
                code.add(line);
            }
        }
        return code;
    }

    private void follow(String line) throws IllegalAccessException, NoSuchFieldException {
        Matcher call = CALL.matcher(line);
        if (line.equals(NEW_KITE)) {
            kite = new KitePainter();
        } else if (call.matches() && kite != null) {
            make(call);
        } else {
            Check.tell("README.md shows a line that is no call with its answer: " + line);
        }
    }

    private void make(Matcher call) throws IllegalAccessException, NoSuchFieldException {
        String what = call.group(1) + "(" + call.group(2) + ")";
        Method method = methodNamed(call.group(1));
        if (method == null) {
            Check.tell("README.md shows a method that there is not: " + what);
            return;
        }
        shown.add(method.getName());
        Object[] arguments = argumentsOf(call.group(2));
        String due = call.group(3) != null ? "throws " + call.group(4) : valueOf(call.group(4), method.getReturnType());
        Check.dueSame(what, answerOf(method, arguments), due);
        if (method.getName().equals("append")) {
            Check.dueSame("the bytes of " + what, '"' + textOf(arguments) + '"', call.group(5));
        }
    }

    private static Method methodNamed(String name) {
        for (Method method : KitePainter.class.getDeclaredMethods()) {
            if (Modifier.isPublic(method.getModifiers()) && method.getName().equals(name)) {
                return method;
            }
        }
        return null;
    }

    private static Object[] argumentsOf(String told) {
        List<Object> arguments = new ArrayList<>();
        for (String argument : told.isEmpty() ? new String[0] : told.split(", ")) {
            boolean isFlag = argument.equals("true") || argument.equals("false");
            arguments.add(isFlag ? (Object) Boolean.valueOf(argument) : Integer.decode(argument));
        }
        return arguments.toArray();
    }

    /** What README.md tells of an answer, as answerOf tells it. */
    private static String valueOf(String told, Class<?> type) throws IllegalAccessException, NoSuchFieldException {
        if (told.matches("[A-Z_]+")) {
            return String.valueOf(KitePainter.class.getField(told).get(null));
        }
        return type == float.class ? String.valueOf(Float.parseFloat(told)) : String.valueOf(Long.parseLong(told));
    }

    private String answerOf(Method method, Object[] arguments) throws IllegalAccessException {
        try {
            return String.valueOf(method.invoke(kite, arguments));
        } catch (InvocationTargetException e) {
            return "throws " + e.getCause().getClass().getSimpleName();
        }
    }

    /** The bytes of an append as signs. */
    private static String textOf(Object[] words) {
        StringBuilder text = new StringBuilder();
        for (Object word : words) {
            for (int shift = 24; shift >= 0; shift -= 8) {
                text.append((char) ((Integer) word >>> shift & 255));
            }
        }
        return text.toString();
    }

    private void allMethodsAreShown() {
        for (Method method : KitePainter.class.getDeclaredMethods()) {
            if (Modifier.isPublic(method.getModifiers())) {
                Check.due("README.md shows " + method.getName(), shown.contains(method.getName()) ? 1 : 0, 1);
            }
        }
    }

    /** What README.md says of the tests: the command is there, and each test has its name in it. */
    private static void testsAreNamed(String readme) {
        Check.due("README.md tells .ci/run", readme.contains("```sh\n.ci/run\n```") ? 1 : 0, 1);
        Check.due(".ci/run can be run", new File(".ci/run").canExecute() ? 1 : 0, 1);
        File[] files = new File("src/test/java").listFiles((folder, name) -> name.endsWith("Test.java"));
        for (File file : files == null ? new File[0] : files) {
            String name = file.getName().replace(".java", "");
            Check.due("README.md names " + name, readme.contains("`" + name + "`") ? 1 : 0, 1);
        }
    }
}
