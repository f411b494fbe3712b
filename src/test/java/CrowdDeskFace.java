import java.io.IOException;
import java.lang.reflect.Constructor;
import java.lang.reflect.Executable;
import java.lang.reflect.Field;
import java.lang.reflect.Method;
import java.lang.reflect.Modifier;
import java.nio.file.Files;
import java.nio.file.Path;
import java.util.ArrayList;
import java.util.Arrays;
import java.util.Collections;
import java.util.HashSet;
import java.util.List;
import java.util.Set;
import java.util.regex.Matcher;
import java.util.regex.Pattern;

/** The public face against the document's, and what a look at the class can tell of LANGUAGE.md. */
public final class CrowdDeskFace {
    private static final Path SOURCE = Path.of("src/main/java/CrowdDesk.java");
    private static final Path DOCUMENT = Path.of("../shared/DOC.md");
    private static final String[] FORBIDDEN = {
        "->", "::", "finally", "synchronized", "assert ", "System.out", "System.nano", "System.current",
        "Exact(", "getMessage", "hashCode", ".toString", "package ", "extends Exception", "Math.random",
        "try {", "catch (", " equals(", "Thread", "static {", "\" +", "+ \""};
    private static final Pattern THROWS =
        Pattern.compile("throw new (IllegalState|IllegalArgument|IndexOutOfBounds)Exception\\(\"[^\"]+\"\\);");
    private static final Pattern METHOD =
        Pattern.compile("( {4}| {8})(?!if|for|while|switch)\\w[\\w\\[\\] ]*\\(.*\\)[\\w, ]* \\{");

    private static final int MOST_PARAMETERS = 7;
    private static final int MOST_FIELDS = 20;
    private static final int MOST_LINES = 60;

    private static int wrong = 0;

    private static void due(String what, Object got, Object want) {
        if (!got.equals(want)) {
            wrong++;
            System.out.println(what + ": " + got + ", due is " + want);
        }
    }

    public static void main(String[] args) throws IOException {
        face();
        members();
        sizes();
        types();
        source();
        throwsAndLengths();
        System.out.println(wrong == 0 ? "the face is the document's" : wrong + " things are not as due");
        if (wrong != 0) {
            System.exit(1);
        }
    }

    private static void face() throws IOException {
        List<String> want = new ArrayList<>();
        for (String line : Files.readAllLines(DOCUMENT)) {
            String text = line.strip();
            if (line.startsWith("    public ") && text.endsWith(";")) {
                want.add(plain(text));
            }
        }
        List<String> got = new ArrayList<>();
        for (Field field : CrowdDesk.class.getFields()) {
            got.add("public static final int " + field.getName() + " = " + intOf(field) + ";");
        }
        for (Constructor<?> made : CrowdDesk.class.getConstructors()) {
            got.add(told(made, "", "CrowdDesk"));
        }
        for (Method method : CrowdDesk.class.getDeclaredMethods()) {
            if (Modifier.isPublic(method.getModifiers())) {
                got.add(told(method, method.getReturnType() + " ", method.getName()));
            }
        }
        Collections.sort(want);
        Collections.sort(got);
        due("the face", String.join("\n", got), String.join("\n", want));
        due("public and final", CrowdDesk.class.getModifiers(), Modifier.PUBLIC | Modifier.FINAL);
    }

    /** A line of the document's face without the names of its parameters. */
    private static String plain(String line) {
        return line.replaceAll("int [a-z]+([,)])", "int$1");
    }

    private static String told(Executable member, String type, String name) {
        StringBuilder text = new StringBuilder("public ").append(type).append(name).append("(");
        text.append(String.join(", ", names(member.getParameterTypes()))).append(")");
        if (member.getExceptionTypes().length > 0) {
            text.append(" throws ").append(String.join(", ", names(member.getExceptionTypes())));
        }
        return text.append(";").toString();
    }

    private static List<String> names(Class<?>[] types) {
        return Arrays.stream(types).map(Class::getSimpleName).toList();
    }

    private static int intOf(Field field) {
        try {
            return field.getInt(null);
        } catch (IllegalAccessException e) {
            throw new IllegalStateException(e);
        }
    }

    private static void members() {
        Set<String> face = new HashSet<>();
        for (Method method : CrowdDesk.class.getDeclaredMethods()) {
            if (Modifier.isPublic(method.getModifiers())) {
                face.add(method.getName());
            } else {
                due(method + " is private", Modifier.isPrivate(method.getModifiers()), true);
            }
        }
        for (Field field : CrowdDesk.class.getDeclaredFields()) {
            boolean open = field.getName().equals("NONE");
            due(field + " is private", Modifier.isPrivate(field.getModifiers()), !open);
        }
        for (Class<?> inside : CrowdDesk.class.getDeclaredClasses()) {
            due(inside + " is static", Modifier.isStatic(inside.getModifiers()), true);
            for (Method method : inside.getDeclaredMethods()) {
                due(method + " bears a name of the face", face.contains(method.getName()), false);
            }
        }
        due("at most twelve classes", CrowdDesk.class.getDeclaredClasses().length < 12, true);
        for (Field field : allFields()) {
            boolean constant = !Modifier.isStatic(field.getModifiers()) || Modifier.isFinal(field.getModifiers());
            due(field + " is no changing static", constant, true);
        }
    }

    private static List<Class<?>> allClasses() {
        List<Class<?>> all = new ArrayList<>(List.of(CrowdDesk.class));
        all.addAll(Arrays.asList(CrowdDesk.class.getDeclaredClasses()));
        return all;
    }

    private static List<Field> allFields() {
        List<Field> all = new ArrayList<>();
        for (Class<?> one : allClasses()) {
            all.addAll(Arrays.asList(one.getDeclaredFields()));
        }
        return all;
    }

    private static void sizes() {
        for (Class<?> one : allClasses()) {
            long fields = allFields().stream()
                .filter(field -> field.getDeclaringClass() == one && !Modifier.isStatic(field.getModifiers())).count();
            due(one + " has few fields", fields <= MOST_FIELDS, true);
            due(one + " has no classes inside", one == CrowdDesk.class || one.getDeclaredClasses().length == 0, true);
            for (Method method : one.getDeclaredMethods()) {
                due(method + " has few parameters", method.getParameterCount() <= MOST_PARAMETERS, true);
            }
        }
    }

    private static void types() {
        for (Field field : allFields()) {
            Class<?> type = field.getType();
            Class<?> part = type.isArray() ? type.getComponentType() : type;
            boolean own = allClasses().contains(part);
            due(field + " has a type of LANGUAGE.md", part.isPrimitive() || own, true);
            if (Modifier.isStatic(field.getModifiers())) {
                due(field + " is a constant", Set.of(int.class, long.class).contains(type), true);
            }
        }
    }

    private static void source() throws IOException {
        for (String line : Files.readAllLines(SOURCE)) {
            for (String text : FORBIDDEN) {
                due("'" + text + "' in: " + line, line.contains(text), false);
            }
            if (line.startsWith("import ")) {
                due("an import", line, "import java.util.Arrays;");
            }
        }
    }

    private static void throwsAndLengths() throws IOException {
        List<String> lines = Files.readAllLines(SOURCE);
        int methods = 0;
        for (int at = 0; at < lines.size(); at++) {
            String line = lines.get(at);
            if (line.contains("throw ")) {
                due("a throw as rule 6 says: " + line, THROWS.matcher(line.strip()).matches(), true);
            }
            Matcher method = METHOD.matcher(line);
            if (method.matches()) {
                methods++;
                int end = lines.subList(at, lines.size()).indexOf(method.group(1) + "}");
                due("a short method: " + line, end > 0 && end < MOST_LINES, true);
            }
        }
        int declared = allClasses().stream().mapToInt(one -> one.getDeclaredMethods().length).sum();
        due("all methods were found", methods >= declared, true);
    }
}
