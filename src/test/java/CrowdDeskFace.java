import java.io.IOException;
import java.lang.reflect.Constructor;
import java.lang.reflect.Executable;
import java.lang.reflect.Field;
import java.lang.reflect.Method;
import java.lang.reflect.Modifier;
import java.nio.file.Files;
import java.nio.file.Path;
import java.util.ArrayList;
import java.util.Arrays;
import java.util.Collections;
import java.util.HashSet;
import java.util.List;
import java.util.Set;

/** The public face against the document's, and what a look at the class can tell of LANGUAGE.md. */
public final class CrowdDeskFace {
    private static final Path SOURCE = Path.of("src/main/java/CrowdDesk.java");
    private static final Path DOCUMENT = Path.of("../shared/DOC.md");
    private static final String[] FORBIDDEN = {
        "->", "::", "finally", "synchronized", "assert ", "System.out", "System.nano", "System.current",
        "Exact(", "getMessage", "hashCode", ".toString", "package ", "extends Exception", "Math.random"};

    private static int wrong = 0;

    private static void due(String what, Object got, Object want) {
        if (!got.equals(want)) {
            wrong++;
            System.out.println(what + ": " + got + ", due is " + want);
        }
    }

    public static void main(String[] args) throws IOException {
        face();
        members();
        source();
        System.out.println(wrong == 0 ? "the face is the document's" : wrong + " things are not as due");
        if (wrong != 0) {
            System.exit(1);
        }
    }

    private static void face() throws IOException {
        List<String> want = new ArrayList<>();
        for (String line : Files.readAllLines(DOCUMENT)) {
            String text = line.strip();
            if (line.startsWith("    public ") && text.endsWith(";")) {
                want.add(plain(text));
            }
        }
        List<String> got = new ArrayList<>();
        for (Field field : CrowdDesk.class.getFields()) {
            got.add("public static final int " + field.getName() + " = " + intOf(field) + ";");
        }
        for (Constructor<?> made : CrowdDesk.class.getConstructors()) {
            got.add(told(made, "", "CrowdDesk"));
        }
        for (Method method : CrowdDesk.class.getDeclaredMethods()) {
            if (Modifier.isPublic(method.getModifiers())) {
                got.add(told(method, method.getReturnType() + " ", method.getName()));
            }
        }
        Collections.sort(want);
        Collections.sort(got);
        due("the face", String.join("\n", got), String.join("\n", want));
        due("public and final", CrowdDesk.class.getModifiers(), Modifier.PUBLIC | Modifier.FINAL);
    }

    /** A line of the document's face without the names of its parameters. */
    private static String plain(String line) {
        return line.replaceAll("int [a-z]+([,)])", "int$1");
    }

    private static String told(Executable member, String type, String name) {
        StringBuilder text = new StringBuilder("public ").append(type).append(name).append("(");
        text.append(String.join(", ", names(member.getParameterTypes()))).append(")");
        if (member.getExceptionTypes().length > 0) {
            text.append(" throws ").append(String.join(", ", names(member.getExceptionTypes())));
        }
        return text.append(";").toString();
    }

    private static List<String> names(Class<?>[] types) {
        return Arrays.stream(types).map(Class::getSimpleName).toList();
    }

    private static int intOf(Field field) {
        try {
            return field.getInt(null);
        } catch (IllegalAccessException e) {
            throw new IllegalStateException(e);
        }
    }

    private static void members() {
        Set<String> face = new HashSet<>();
        for (Method method : CrowdDesk.class.getDeclaredMethods()) {
            if (Modifier.isPublic(method.getModifiers())) {
                face.add(method.getName());
            } else {
                due(method + " is private", Modifier.isPrivate(method.getModifiers()), true);
            }
        }
        for (Field field : CrowdDesk.class.getDeclaredFields()) {
            boolean open = field.getName().equals("NONE");
            due(field + " is private", Modifier.isPrivate(field.getModifiers()), !open);
        }
        for (Class<?> inside : CrowdDesk.class.getDeclaredClasses()) {
            due(inside + " is static", Modifier.isStatic(inside.getModifiers()), true);
            for (Method method : inside.getDeclaredMethods()) {
                due(method + " bears a name of the face", face.contains(method.getName()), false);
            }
        }
        due("at most twelve classes", CrowdDesk.class.getDeclaredClasses().length < 12, true);
        for (Field field : allFields()) {
            boolean constant = !Modifier.isStatic(field.getModifiers()) || Modifier.isFinal(field.getModifiers());
            due(field + " is no changing static", constant, true);
        }
    }

    private static List<Field> allFields() {
        List<Field> all = new ArrayList<>(Arrays.asList(CrowdDesk.class.getDeclaredFields()));
        for (Class<?> inside : CrowdDesk.class.getDeclaredClasses()) {
            all.addAll(Arrays.asList(inside.getDeclaredFields()));
        }
        return all;
    }

    private static void source() throws IOException {
        for (String line : Files.readAllLines(SOURCE)) {
            for (String text : FORBIDDEN) {
                due("'" + text + "' in: " + line, line.contains(text), false);
            }
            if (line.startsWith("import ")) {
                due("an import", line, "import java.util.Arrays;");
            }
        }
    }
}
