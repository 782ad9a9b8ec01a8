import java.lang.reflect.Constructor;
import java.lang.reflect.Field;
import java.lang.reflect.Method;
import java.lang.reflect.Modifier;
import java.util.Arrays;
import java.util.Set;
import java.util.TreeSet;
import java.util.stream.Collectors;

/** The face is just the one of the document, with its throws clauses, and the constants have their values. */
public final class FaceTest {
    private static final String INDEX = " throws IndexOutOfBoundsException";
    private static final String ARGUMENT = ",IllegalArgumentException";
    private static final String STATE = ",IllegalStateException";

    private static final Set<String> METHODS = new TreeSet<>(Set.of(
            "long fund(int,int,int)" + INDEX + ARGUMENT,
            "int line(int,int,int)" + INDEX + ARGUMENT,
            "int limit(int,int,int,int)" + INDEX + ARGUMENT,
            "boolean out(int,boolean)" + INDEX,
            "boolean holiday(int,int,boolean)" + INDEX + ARGUMENT,
            "int list(int,boolean)" + INDEX,
            "int send(int,int,int,int,int,int,int,boolean,int,boolean)" + INDEX + ARGUMENT + STATE,
            "int doubles()",
            "void join(int,int)" + INDEX + STATE,
            "int withdraw(int)" + INDEX + STATE,
            "boolean release(int,int)" + INDEX + STATE,
            "int refuse(int)" + INDEX + STATE,
            "int offset(int)" + INDEX,
            "int recall(int)" + INDEX + STATE,
            "int answer(int,boolean)" + INDEX + STATE,
            "int endDay() throws IllegalStateException",
            "int today()",
            "long account(int,int)" + INDEX,
            "long accountAnew(int,int)" + INDEX,
            "long paid(int,int,int)" + INDEX,
            "int payments()",
            "int stateOf(int)" + INDEX,
            "int queueAt(int,int,int)" + INDEX,
            "int entries()",
            "long entryAt(int,int)" + INDEX + ARGUMENT,
            "int advice(int)" + INDEX,
            "int again(int,int)" + INDEX + ARGUMENT));

    public static void main(String[] args) throws ReflectiveOperationException {
        Class<?> face = MillstreamPayments.class;
        Checks.due("public final", face.getModifiers(), Modifier.PUBLIC | Modifier.FINAL);
        Set<String> names = new TreeSet<>();
        Set<String> found = new TreeSet<>();
        for (Method method : face.getDeclaredMethods()) {
            if (!Modifier.isPrivate(method.getModifiers())) {
                found.add(told(method));
                names.add(method.getName());
            }
        }
        Set<String> missing = new TreeSet<>(METHODS);
        missing.removeAll(found);
        found.removeAll(METHODS);
        Checks.due("missing methods " + missing, missing.size(), 0);
        Checks.due("methods too many " + found, found.size(), 0);
        for (Method method : face.getDeclaredMethods()) {
            Checks.due("private " + method.getName() + " bears a public name",
                    Modifier.isPrivate(method.getModifiers()) && names.contains(method.getName()), false);
        }
        constructors(face);
        constants(face);
        Checks.end();
    }

    private static String told(Method method) {
        String clause = names(method.getExceptionTypes());
        return method.getReturnType() + " " + method.getName() + "(" + names(method.getParameterTypes()) + ")"
                + (clause.isEmpty() ? "" : " throws " + clause);
    }

    private static String names(Class<?>[] types) {
        return Arrays.stream(types).map(Class::getSimpleName).collect(Collectors.joining(","));
    }

    private static void constructors(Class<?> face) {
        Constructor<?>[] all = face.getDeclaredConstructors();
        Checks.due("constructors", all.length, 1);
        Checks.due("its modifiers", all[0].getModifiers(), Modifier.PUBLIC);
        Checks.due("its parameters", all[0].getParameterCount(), 0);
    }

    private static void constants(Class<?> face) throws ReflectiveOperationException {
        int open = 0;
        for (Field field : face.getDeclaredFields()) {
            open += Modifier.isPrivate(field.getModifiers()) ? 0 : 1;
        }
        Checks.due("constants", open, 7);
        String[] names = {"NONE", "WAITING", "HELD", "QUEUED", "NETTED", "FINAL", "RETURNED"};
        for (int i = 0; i < names.length; i++) {
            Field field = face.getDeclaredField(names[i]);
            Checks.due(names[i] + " modifiers", field.getModifiers(),
                    Modifier.PUBLIC | Modifier.STATIC | Modifier.FINAL);
            Checks.due(names[i], field.getInt(null), i - 1);
        }
    }
}
