import java.lang.reflect.InvocationTargetException;
import java.lang.reflect.Method;
import java.util.Arrays;
import java.util.HashMap;
import java.util.Map;

/** Makes calls by name and tells their answers as texts, in the way the issues write them. */
final class Calls {
    /** Each method, by its class and name, as the tests make some million calls. */
    private static final Map<Class<?>, Map<String, Method>> METHODS = new HashMap<>();

    private Calls() {
    }

    /** "5", "true", "-" for a call that answers nothing, or "throws." and the exception's name. */
    static String answer(Object object, String name, int... args) {
        Object[] values = new Object[args.length];
        for (int i = 0; i < args.length; i++) {
            values[i] = args[i];
        }
        Method method = METHODS.computeIfAbsent(object.getClass(), type -> new HashMap<>())
            .computeIfAbsent(name, text -> find(object.getClass(), text, args.length));
        try {
            Object got = method.invoke(object, values);
            return got == null ? "-" : got.toString();
        } catch (InvocationTargetException e) {
            return "throws." + e.getCause().getClass().getSimpleName();
        } catch (ReflectiveOperationException e) {
            throw new AssertionError(name + " can't be called", e);
        }
    }

    private static Method find(Class<?> type, String name, int count) {
        Class<?>[] types = new Class<?>[count];
        Arrays.fill(types, int.class);
        try {
            return type.getDeclaredMethod(name, types);
        } catch (NoSuchMethodException e) {
            throw new AssertionError(name + " is not there", e);
        }
    }

    static String told(String name, int... args) {
        StringBuilder text = new StringBuilder(name).append('(');
        for (int i = 0; i < args.length; i++) {
            text.append(i == 0 ? "" : ", ").append(args[i]);
        }
        return text.append(')').toString();
    }
}
