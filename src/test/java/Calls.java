import java.lang.reflect.InvocationTargetException;
import java.lang.reflect.Method;
import java.util.HashMap;
import java.util.Map;

/** Makes calls that are written as texts, as "of(0, 2024, 2, 29)", and tells each answer as a text too. */
final class Calls {
    static final String INDEX = "throws.IndexOutOfBoundsException";
    static final String ARGUMENT = "throws.IllegalArgumentException";
    static final String STATE = "throws.IllegalStateException";

    private final Map<String, Method> methods = new HashMap<>();

    Calls(Class<?> type) {
        for (Method method : type.getDeclaredMethods()) {
            methods.put(method.getName() + "/" + method.getParameterCount(), method);
        }
    }

    /** The answer, or "throws." and the name of just that exception which came, be it one of the machine's own. */
    String answer(Object object, String call) {
        int open = call.indexOf('(');
        String written = call.substring(open + 1, call.length() - 1).trim();
        String[] numbers = written.isEmpty() ? new String[0] : written.split(", *");
        Object[] arguments = new Object[numbers.length];
        for (int i = 0; i < numbers.length; i++) {
            arguments[i] = Integer.valueOf(numbers[i]);
        }
        return answer(object, call.substring(0, open), arguments);
    }

    String answer(Object object, String name, Object... arguments) {
        Method method = methods.get(name + "/" + arguments.length);
        if (method == null) {
            throw new IllegalArgumentException("a test calls " + name + ", which there is not");
        }
        try {
            return String.valueOf(method.invoke(object, arguments));
        } catch (InvocationTargetException thrown) {
            return "throws." + thrown.getCause().getClass().getSimpleName();
        } catch (IllegalAccessException closed) {
            throw new IllegalArgumentException("a test calls " + name + ", which is not open");
        }
    }
}
