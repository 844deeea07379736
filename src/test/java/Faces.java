import java.lang.reflect.InvocationTargetException;
import java.lang.reflect.Method;
import java.util.HashMap;
import java.util.Map;

/** Calls the methods of a path by their names, and types texts into it. */
final class Faces {
    private static final Map<Class<?>, Map<String, Method>> METHODS = new HashMap<>();

    private Faces() { }

    private static Map<String, Method> methodsOf(Class<?> type) {
        Map<String, Method> all = new HashMap<>();
        for (Method m : type.getDeclaredMethods()) {
            if (java.lang.reflect.Modifier.isPublic(m.getModifiers())) {
                all.put(m.getName(), m);
            }
        }
        return all;
    }

    /** The answer as a text: the number, or throws. and the exception's name. */
    static String call(Object path, String name, Object... arguments) {
        Method method = METHODS.computeIfAbsent(path.getClass(), Faces::methodsOf).get(name);
        if (method == null) {
            throw new IllegalStateException("no method " + name + " in " + path.getClass());
        }
        try {
            return String.valueOf(method.invoke(path, arguments));
        } catch (InvocationTargetException e) {
            // The class's own name, so that the machine's subclasses are told from what the document names.
            return "throws." + e.getCause().getClass().getSimpleName();
        } catch (IllegalAccessException e) {
            throw new IllegalStateException(e);
        }
    }

    /** The five numbers for append() that hold 20 signs of a text from an index, filled up with spaces. */
    static Object[] numbers(String text, int from) {
        Object[] five = new Object[5];
        for (int i = 0; i < 5; i++) {
            int number = 0;
            for (int k = 0; k < 4; k++) {
                int at = from + 4 * i + k;
                number = number << 8 | (at < text.length() ? text.charAt(at) : ' ') & 255;
            }
            five[i] = number;
        }
        return five;
    }
}
