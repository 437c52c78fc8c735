import java.lang.reflect.InvocationTargetException;
import java.lang.reflect.Method;
import java.util.Arrays;
import java.util.HashMap;
import java.util.Map;

/** Calls by name, on the class and on the model alike. */
final class Calls {
    private static final Map<String, Method> OF_CLASS = methodsOf(HiringFairs.class);
    private static final Map<String, Method> OF_MODEL = methodsOf(Model.class);

    private Calls() {
    }

    static int call(HiringFairs x, String name, Object... arguments) {
        return invoke(OF_CLASS, x, name, arguments);
    }

    static int call(Model model, String name, Object... arguments) {
        return invoke(OF_MODEL, model, name, arguments);
    }

    private static int invoke(Map<String, Method> methods, Object on, String name, Object... arguments) {
        Method method = methods.get(name);
        if (method == null) {
            throw new IllegalArgumentException("there is no call " + name);
        }
        try {
            return (Integer) method.invoke(on, arguments);
        } catch (InvocationTargetException | IllegalAccessException | IllegalArgumentException e) {
            throw new IllegalStateException(name + Arrays.toString(arguments) + " on " + on.getClass(), e);
        }
    }

    private static Map<String, Method> methodsOf(Class<?> type) {
        Map<String, Method> methods = new HashMap<>();
        for (Method method : type.getDeclaredMethods()) {
            if (method.getReturnType() == int.class) {
                methods.put(method.getName(), method);
            }
        }
        return methods;
    }
}
