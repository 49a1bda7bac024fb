import java.io.IOException;
import java.lang.reflect.InvocationTargetException;
import java.lang.reflect.Method;
import java.nio.file.DirectoryStream;
import java.nio.file.Files;
import java.nio.file.Path;
import java.util.List;
import java.util.regex.Matcher;
import java.util.regex.Pattern;

/** What README.md says of the class and of its tests holds; run from the project's directory. */
public final class ReadmeTest {
    private static final Path README = Path.of("README.md");
    private static final Path TESTS = Path.of("src/test/java");
    private static final String NEW_OBJECT = "ExchangeSystem x = new ExchangeSystem();";
    /** A call and, up to a colon, what it answers. */
    private static final Pattern CALL = Pattern.compile("x\\.(\\w+)\\(([^)]*)\\); *// ([^:]+)(: .*)?");

    public static void main(String[] args) throws IOException {
        List<String> lines = Files.readAllLines(README);
        String all = String.join("\n", lines);
        Due.sentence("README.md: runs of calls with their answers.", () -> runs(lines));
        Due.sentence("README.md names every call of the face.", () -> namesEveryCall(all));
        Due.sentence("README.md has a run with every exception.", () -> showsEveryException(all));
        namesEveryTest(all);
        Due.end();
    }

    private static void runs(List<String> lines) {
        ExchangeSystem x = null;
        int calls = 0;
        for (String line : lines) {
            if (line.equals(NEW_OBJECT)) {
                x = new ExchangeSystem();
            } else if (line.startsWith("x.")) {
                answers(x, line);
                calls++;
            }
        }
        if (calls == 0) {
            Due.report("README.md shows no call");
        }
    }

    private static void answers(ExchangeSystem x, String line) {
        Matcher call = CALL.matcher(line);
        if (x == null || !call.matches()) {
            Due.report("no call with its answer, on an object: " + line);
            return;
        }
        Due.same(line, answer(x, call.group(1), call.group(2)), call.group(3));
    }

    private static String answer(ExchangeSystem x, String name, String arguments) {
        Method method = methodOf(name);
        try {
            Object answer = method.invoke(x, numbers(method, arguments));
            return answer == null ? "nothing" : answer.toString();
        } catch (InvocationTargetException thrown) {
            return "throws " + thrown.getCause().getClass().getSimpleName();
        } catch (IllegalAccessException hidden) {
            throw new IllegalStateException(hidden);
        }
    }

    private static Method methodOf(String name) {
        for (Method method : ExchangeSystem.class.getDeclaredMethods()) {
            if (method.getName().equals(name)) {
                return method;
            }
        }
        throw new IllegalStateException("the face has no " + name);
    }

    private static Object[] numbers(Method method, String arguments) {
        Class<?>[] types = method.getParameterTypes();
        String[] texts = arguments.isEmpty() ? new String[0] : arguments.split(", ");
        Object[] numbers = new Object[texts.length];
        for (int i = 0; i < texts.length; i++) {
            long number = number(texts[i]);
            if (types[i] == long.class) {
                numbers[i] = number;
            } else {
                numbers[i] = Math.toIntExact(number);
            }
        }
        return numbers;
    }

    private static long number(String literal) {
        if (literal.startsWith("0b")) {
            return Long.parseLong(literal.substring(2), 2);
        }
        return Long.decode(literal.replace("L", ""));
    }

    private static void namesEveryCall(String all) {
        for (Method method : ExchangeSystem.class.getMethods()) {
            boolean ofTheFace = method.getDeclaringClass() == ExchangeSystem.class;
            if (ofTheFace && !all.contains("| `" + method.getName() + "(")) {
                Due.report("README.md does not tell of " + method.getName());
            }
        }
    }

    private static void showsEveryException(String all) {
        String[] names = {"IllegalArgumentException", "IllegalStateException", "NoSuchElementException",
            "UnsupportedOperationException"};
        for (String name : names) {
            if (!all.contains("// throws " + name + ": ")) {
                Due.report("README.md shows no " + name);
            }
        }
    }

    private static void namesEveryTest(String all) throws IOException {
        try (DirectoryStream<Path> files = Files.newDirectoryStream(TESTS, "*Test.java")) {
            for (Path file : files) {
                String name = file.getFileName().toString().replace(".java", "");
                if (!all.contains("`" + name + "`")) {
                    Due.report("README.md does not tell of " + name);
                }
            }
        }
    }
}
