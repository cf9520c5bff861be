import java.lang.reflect.InvocationTargetException;
import java.lang.reflect.Method;
import java.util.Arrays;

/** Makes calls by name and tells their answers as texts, in the way the issues write them. */
final class Calls {
    private Calls() {
    }

    /** "5", "true", "-" for a call that answers nothing, or "throws." and the exception's name. */
    static String answer(Object object, String name, int... args) {
        Class<?>[] types = new Class<?>[args.length];
        Arrays.fill(types, int.class);
        Object[] values = Arrays.stream(args).boxed().toArray();
        try {
            Method method = object.getClass().getDeclaredMethod(name, types);
            Object got = method.invoke(object, values);
            return got == null ? "-" : got.toString();
        } catch (InvocationTargetException e) {
            return "throws." + e.getCause().getClass().getSimpleName();
        } catch (ReflectiveOperationException e) {
            throw new AssertionError(name + " can't be called", e);
        }
    }

    static String told(String name, int... args) {
        StringBuilder text = new StringBuilder(name).append('(');
        for (int i = 0; i < args.length; i++) {
            text.append(i == 0 ? "" : ", ").append(args[i]);
        }
        return text.append(')').toString();
    }
}
