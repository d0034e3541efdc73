import java.lang.reflect.InvocationTargetException;
import java.lang.reflect.Method;
import java.util.Arrays;
import java.util.HashMap;
import java.util.Map;

/** Calls of the face by their names, so that a test can go over all of them; the answer is a text. */
final class Calls {
    private static final Map<String, Method> METHODS = new HashMap<>();

    static {
        for (Method method : Taxmaze.class.getDeclaredMethods()) {
            if (!java.lang.reflect.Modifier.isPrivate(method.getModifiers())) {
                METHODS.put(method.getName(), method);
            }
        }
    }

    private Calls() {
    }

    /** What a call answers, or what it throws: a boolean argument counts as true if it is not 0. */
    static String answer(Taxmaze on, String name, long... numbers) {
        Method method = METHODS.get(name);
        Object[] arguments = new Object[numbers.length];
        for (int i = 0; i < numbers.length; i++) {
            Class<?> type = method.getParameterTypes()[i];
            arguments[i] = type == boolean.class ? (Object) (numbers[i] != 0)
                : type == long.class ? (Object) numbers[i] : (Object) (int) numbers[i];
        }
        try {
            return String.valueOf(method.invoke(on, arguments));
        } catch (InvocationTargetException e) {
            return "throws " + Check.nameOf(e.getCause());
        } catch (IllegalAccessException e) {
            return e.toString();
        }
    }

    /** Whether an argument of a call is a long, so that more than an int can be asked for. */
    static boolean takesLong(String name, int argument) {
        return METHODS.get(name).getParameterTypes()[argument] == long.class;
    }

    static String text(String name, long... numbers) {
        return name + Arrays.toString(numbers);
    }
}
