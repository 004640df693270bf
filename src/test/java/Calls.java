import java.lang.reflect.InvocationTargetException;
import java.lang.reflect.Method;
import java.lang.reflect.Modifier;
import java.util.Arrays;

/** Calls told as text, such as "send 0 5 5", on an object of the class or of its model. */
final class Calls {
    private Calls() {
    }

    /** The answer to a call, its name ahead of its arguments; true is 1, false is 0. */
    static long answer(Object on, String row) {
        String[] words = row.split(" ");
        Object[] arguments = new Object[words.length - 1];
        for (int i = 0; i < arguments.length; i++) {
            boolean truth = words[i + 1].equals("true") || words[i + 1].equals("false");
            arguments[i] = truth ? (Object) Boolean.valueOf(words[i + 1]) : (Object) Integer.valueOf(words[i + 1]);
        }
        return answer(on, words[0], arguments);
    }

    static long answer(Object on, String name, Object[] arguments) {
        for (Method method : on.getClass().getDeclaredMethods()) {
            // The model has private methods of the same names.
            boolean own = !Modifier.isPrivate(method.getModifiers());
            if (own && method.getName().equals(name) && method.getParameterCount() == arguments.length) {
                return answer(on, method, arguments);
            }
        }
        throw new IllegalArgumentException("no such call: " + name + Arrays.toString(arguments));
    }

    private static long answer(Object on, Method method, Object[] arguments) {
        try {
            return number(String.valueOf(method.invoke(on, arguments)));
        } catch (IllegalAccessException | InvocationTargetException broken) {
            throw new IllegalStateException(method.getName() + Arrays.toString(arguments), broken);
        }
    }

    static long number(String answer) {
        return answer.equals("true") ? 1 : answer.equals("false") ? 0 : Long.parseLong(answer);
    }
}
