import java.io.IOException;
import java.lang.reflect.InvocationTargetException;
import java.lang.reflect.Method;
import java.nio.file.Files;
import java.nio.file.Path;
import java.util.ArrayList;
import java.util.Arrays;
import java.util.LinkedHashMap;
import java.util.LinkedHashSet;
import java.util.List;
import java.util.Map;
import java.util.Set;
import java.util.regex.Matcher;
import java.util.regex.Pattern;

/** What README.md says: its examples, call by call, and its table of calls against the face. */
public final class ReadmeHolds extends Checks {
    private static final Path README = Path.of("README.md");
    private static final Path DOCUMENT = Path.of("../shared/DOC.md");
    private static final String NEW_DESK = "CrowdDesk desk = new CrowdDesk();";
    private static final Pattern CALL = Pattern.compile("desk\\.(\\w+)\\(([-\\d, ]*)\\); +// ([^:]+)(:.*)?");
    private static final Pattern FACE = Pattern.compile(" {4}public (\\w+) (\\w+)\\((.*?)\\)( throws (.*))?;");
    private static final Pattern ROW = Pattern.compile("\\| `(\\w+\\(.*?\\))` \\| (.+) \\|(.*)\\|");
    private static final Pattern EXCEPTION = Pattern.compile("\\w+Exception");

    private static CrowdDesk desk;

    public static void main(String[] args) throws ReflectiveOperationException {
        List<String> lines = linesOf(README);
        examples(lines);
        tableOfCalls(lines);
        tests(lines);
        finish();
    }

    private static void examples(List<String> lines) throws ReflectiveOperationException {
        sentence("README.md: the examples");
        Set<String> called = new LinkedHashSet<>();
        boolean inside = false;
        for (String line : lines) {
            if (line.startsWith("```")) {
                inside = line.equals("```java");
            } else if (inside && line.equals(NEW_DESK)) {
                desk = new CrowdDesk();
            } else if (inside && !line.isEmpty()) {
                called.add(example(line));
            }
        }
        due("the calls that have an example", called.size(), namesOf(face().keySet()).size());
    }

    /** Makes the call that a line of an example tells: the method's name. */
    private static String example(String line) throws ReflectiveOperationException {
        Matcher told = CALL.matcher(line);
        if (!told.matches()) {
            due("a line of an example", line, "a call, and what it answers");
            return line;
        }
        Method method = named(told.group(1));
        Object answer = answerOf(method, numbers(told.group(2)));
        if (method.getReturnType() != void.class) {
            due(line, answer, told.group(3).strip());
        }
        return method.getName();
    }

    private static Method named(String name) throws NoSuchMethodException {
        for (Method method : CrowdDesk.class.getMethods()) {
            if (method.getName().equals(name)) {
                return method;
            }
        }
        throw new NoSuchMethodException(name);
    }

    private static Object[] numbers(String list) {
        return list.isEmpty() ? new Object[0] : Arrays.stream(list.split(", ")).map(Integer::valueOf).toArray();
    }

    private static String answerOf(Method method, Object[] arguments) throws IllegalAccessException {
        try {
            return String.valueOf(method.invoke(desk, arguments));
        } catch (InvocationTargetException e) {
            return e.getCause().getClass().getSimpleName();
        }
    }

    private static void tableOfCalls(List<String> lines) {
        sentence("README.md: the table of calls");
        Map<String, List<String>> got = new LinkedHashMap<>();
        for (String line : lines) {
            Matcher row = ROW.matcher(line);
            if (row.matches()) {
                got.put(row.group(1), exceptionsOf(row.group(3)));
            }
        }
        due("the calls and what they throw", got, face());
    }

    /** The document's face: each call without its types, and the exceptions that it throws. */
    private static Map<String, List<String>> face() {
        Map<String, List<String>> calls = new LinkedHashMap<>();
        for (String line : linesOf(DOCUMENT)) {
            Matcher told = FACE.matcher(line);
            if (told.matches()) {
                String call = told.group(2) + "(" + told.group(3).replace("int ", "") + ")";
                calls.put(call, exceptionsOf(told.group(5) == null ? "" : told.group(5)));
            }
        }
        return calls;
    }

    private static List<String> linesOf(Path file) {
        try {
            return Files.readAllLines(file);
        } catch (IOException e) {
            throw new IllegalStateException(e);
        }
    }

    private static List<String> exceptionsOf(String text) {
        Set<String> names = new LinkedHashSet<>();
        Matcher name = EXCEPTION.matcher(text);
        while (name.find()) {
            names.add(name.group());
        }
        return new ArrayList<>(names);
    }

    private static Set<String> namesOf(Set<String> calls) {
        Set<String> names = new LinkedHashSet<>();
        for (String call : calls) {
            names.add(call.substring(0, call.indexOf('(')));
        }
        return names;
    }

    private static void tests(List<String> lines) {
        sentence("README.md: how to run the tests");
        String text = String.join("\n", lines);
        due("it tells of .ci/run", text.contains("```sh\n.ci/run\n```"), true);
        for (String test : Path.of("src/test/java").toFile().list()) {
            String name = test.replace(".java", "");
            due("it tells of " + name, text.contains("`" + name + "`"), true);
        }
    }
}
