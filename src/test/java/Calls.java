import java.lang.reflect.InvocationTargetException;
import java.lang.reflect.Method;
import java.util.HashMap;
import java.util.Map;

/** Calls by their names; an answer is a number, null, or throws. and the exception's name. */
final class Calls {
    private static final Map<Class<?>, Map<String, Method>> METHODS = new HashMap<>();

    private Calls() {
    }

    static Method method(Class<?> face, String name) {
        return METHODS.computeIfAbsent(face, Calls::methodsOf).get(name);
    }

    static String answer(Object on, String name, Object... arguments) {
        try {
            return String.valueOf(method(on.getClass(), name).invoke(on, arguments));
        } catch (InvocationTargetException e) {
            return "throws." + e.getCause().getClass().getSimpleName();
        } catch (IllegalAccessException e) {
            throw new AssertionError(e);
        }
    }

    private static Map<String, Method> methodsOf(Class<?> face) {
        Map<String, Method> methods = new HashMap<>();
        for (Method method : face.getMethods()) {
            methods.put(method.getName(), method);
        }
        return methods;
    }
}
