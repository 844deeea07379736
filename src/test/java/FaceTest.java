import java.lang.reflect.Constructor;
import java.lang.reflect.Field;
import java.lang.reflect.Method;
import java.lang.reflect.Modifier;
import java.nio.file.Files;
import java.nio.file.Path;
import java.util.ArrayList;
import java.util.List;
import java.util.Set;
import java.util.TreeSet;

/** The public face is that of the document, and the source keeps to what can be seen of LANGUAGE.md. */
public final class FaceTest {
    private static final Path SOURCE = Path.of("src/main/java/FragmentPath.java");
    private static final Path DOCUMENT = Path.of("../shared/DOC.md");
    private static final int MOST_LINES = 60;
    private static final int MOST_CLASSES = 12;
    private static final int MOST_FIELDS = 20;

    private static int wrong = 0;

    private FaceTest() { }

    public static void main(String[] args) throws Exception {
        compareFaces();
        compareNames();
        readSource(Files.readAllLines(SOURCE));
        if (wrong > 0) {
            System.exit(1);
        }
        System.out.println("the face is that of the document");
    }

    private static void fail(String what) {
        wrong++;
        System.out.println(what);
    }

    /** A method as the document writes it, without the names of its parameters. */
    private static String written(Method m) {
        StringBuilder text = new StringBuilder();
        text.append(m.getReturnType()).append(' ').append(m.getName()).append('(');
        for (int i = 0; i < m.getParameterCount(); i++) {
            text.append(i > 0 ? ", " : "").append(m.getParameterTypes()[i]);
        }
        text.append(')');
        for (int i = 0; i < m.getExceptionTypes().length; i++) {
            text.append(i > 0 ? ", " : " throws ").append(m.getExceptionTypes()[i].getSimpleName());
        }
        return text.toString();
    }

    private static void compareFaces() throws Exception {
        Set<String> due = new TreeSet<>();
        for (String line : Files.readAllLines(DOCUMENT)) {
            if (line.startsWith("    public ") && line.contains("(") && !line.contains("FragmentPath(")) {
                due.add(line.substring(11, line.length() - 1).replaceAll("(int|boolean) \\w+(?=[,)])", "$1"));
            }
        }
        Set<String> got = new TreeSet<>();
        for (Method m : FragmentPath.class.getDeclaredMethods()) {
            if (Modifier.isPublic(m.getModifiers())) {
                got.add(written(m));
            } else if (!Modifier.isPrivate(m.getModifiers()) && !m.isSynthetic()) {
                fail("neither public nor private: " + m);
            }
        }
        if (due.size() != 48 || !due.equals(got)) {
            fail("the document's face is " + due + ", that of the class " + got);
        }
        for (Field f : FragmentPath.class.getDeclaredFields()) {
            if (!Modifier.isPrivate(f.getModifiers()) && !f.getName().equals("NONE") && !f.isSynthetic()) {
                fail("a field that is seen: " + f);
            }
        }
        Constructor<?>[] all = FragmentPath.class.getDeclaredConstructors();
        if (all.length != 1 || !Modifier.isPublic(all[0].getModifiers()) || all[0].getParameterCount() != 0) {
            fail("the constructor is another one");
        }
        int modifiers = FragmentPath.class.getModifiers();
        if (!Modifier.isFinal(modifiers) || !Modifier.isPublic(modifiers)) {
            fail("the class is not public and final");
        }
    }

    private static void compareNames() {
        Set<String> faces = new TreeSet<>();
        for (Method m : FragmentPath.class.getDeclaredMethods()) {
            if (Modifier.isPublic(m.getModifiers())) {
                faces.add(m.getName());
            }
        }
        List<Class<?>> all = new ArrayList<>(List.of(FragmentPath.class));
        all.addAll(List.of(FragmentPath.class.getDeclaredClasses()));
        if (all.size() > MOST_CLASSES) {
            fail("too many classes: " + all.size());
        }
        for (Class<?> one : all) {
            for (Method m : one.getDeclaredMethods()) {
                if (!Modifier.isPublic(m.getModifiers()) && faces.contains(m.getName())) {
                    fail("the name of a public method: " + m);
                }
            }
            int fields = 0;
            for (Field f : one.getDeclaredFields()) {
                fields += Modifier.isStatic(f.getModifiers()) ? 0 : 1;
            }
            if (fields > MOST_FIELDS) {
                fail("too many fields in " + one + ": " + fields);
            }
        }
    }

    private static void readSource(List<String> lines) {
        int from = 0;
        for (int i = 0; i < lines.size(); i++) {
            String line = lines.get(i);
            for (String word : List.of("->", "::", "finally", "synchronized", "assert ", "instanceof Object", "Exact(",
                    "catch (", "\" +", "+ \"", "\t")) {
                if (line.contains(word)) {
                    fail("line " + (i + 1) + " has " + word);
                }
            }
            String start = line.stripTrailing();
            if (start.endsWith("{") && (start.matches(" {4}\\w.*") || start.matches(" {8}\\w.*"))
                    && !start.matches(" +(private static final )?class .*|.*\\bclass .*")) {
                from = i;
            }
            if ((start.equals("    }") || start.equals("        }")) && i - from > MOST_LINES) {
                fail("a long method ends at line " + (i + 1));
            }
            if (start.equals("    }") || start.equals("        }")) {
                from = i;
            }
        }
    }
}
