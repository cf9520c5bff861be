import java.lang.reflect.Constructor;
import java.lang.reflect.Field;
import java.lang.reflect.Method;
import java.lang.reflect.Modifier;
import java.util.Arrays;
import java.util.Set;
import java.util.TreeSet;
import java.util.stream.Collectors;

/** The class has the document's face and nothing else that others could see. */
public final class FaceTest {
    private static final String A = "IllegalArgumentException";
    private static final String S = "IllegalStateException";
    private static final String X = "IndexOutOfBoundsException";

    public static void main(String[] args) {
        Set<String> due = new TreeSet<>(Arrays.asList(
            "void tie 2 " + A + " " + S, "int drawn 1 " + X, "int open 0 " + S,
            "int ballot 3 " + A + " " + S, "void turn 2 " + A + " " + S,
            "int correct 3 " + A + " " + X + " " + S, "int state 1 " + A, "int voters 0 ",
            "int prefer 2 " + A, "int strength 2 " + A, "int way 2 " + A, "int cut 2 " + A,
            "boolean proves 5 " + A, "int winner 1 " + X, "boolean locked 2 " + A,
            "int order 1 " + X, "int top 1 " + X, "int without 3 " + A + " " + X,
            "boolean seal 0 "));
        Set<String> got = new TreeSet<>();
        Set<String> hidden = new TreeSet<>();
        for (Method m : BeatPathOffice.class.getDeclaredMethods()) {
            if (Modifier.isPrivate(m.getModifiers())) {
                hidden.add(m.getName());
            } else {
                got.add(told(m));
            }
        }
        boolean right = due.equals(got);
        for (Method m : BeatPathOffice.class.getDeclaredMethods()) {
            right &= Modifier.isPrivate(m.getModifiers()) || !hidden.contains(m.getName());
        }
        for (Field f : BeatPathOffice.class.getDeclaredFields()) {
            right &= Modifier.isPrivate(f.getModifiers());
        }
        for (Class<?> inside : BeatPathOffice.class.getDeclaredClasses()) {
            right &= Modifier.isStatic(inside.getModifiers()) && !Modifier.isPublic(inside.getModifiers());
        }
        Constructor<?>[] makers = BeatPathOffice.class.getDeclaredConstructors();
        right &= makers.length == 1 && Modifier.isPublic(makers[0].getModifiers());
        right &= Modifier.isFinal(BeatPathOffice.class.getModifiers());
        System.out.println(right ? "the face is as due" : "the face is not as due: " + got);
        if (!right) {
            System.exit(1);
        }
    }

    private static String told(Method m) {
        String thrown = Arrays.stream(m.getExceptionTypes()).map(Class::getSimpleName)
            .collect(Collectors.joining(" "));
        return m.getReturnType().getSimpleName() + " " + m.getName() + " " + m.getParameterCount() + " " + thrown;
    }
}
