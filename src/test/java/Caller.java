import java.lang.reflect.InvocationTargetException;
import java.lang.reflect.Method;
import java.lang.reflect.Modifier;
import java.util.HashMap;
import java.util.Map;

/** Makes calls by their names; the program and the model have the same ones. */
final class Caller {
    private final Map<String, Method> methods = new HashMap<>();

    Caller(Class<?> of) {
        for (Method each : of.getDeclaredMethods()) {
            if (!Modifier.isPrivate(each.getModifiers()) && !Modifier.isStatic(each.getModifiers())) {
                methods.put(each.getName(), each);
            }
        }
    }

    int parametersOf(String name) {
        return methodOf(name).getParameterCount();
    }

    long answer(Object object, String name, int... numbers) {
        Method method = methodOf(name);
        if (method.getParameterCount() != numbers.length) {
            throw new IllegalArgumentException(name + " does not take " + numbers.length + " numbers");
        }
        Object[] arguments = new Object[numbers.length];
        for (int i = 0; i < numbers.length; i++) {
            arguments[i] = numbers[i];
        }
        try {
            return ((Number) method.invoke(object, arguments)).longValue();
        } catch (InvocationTargetException thrown) {
            throw new IllegalStateException(told(name, numbers) + " threw " + thrown.getCause(), thrown);
        } catch (IllegalAccessException hidden) {
            throw new IllegalStateException(hidden);
        }
    }

    static String told(String name, int... numbers) {
        StringBuilder call = new StringBuilder(name).append('(');
        for (int i = 0; i < numbers.length; i++) {
            call.append(i == 0 ? "" : ", ").append(numbers[i]);
        }
        return call.append(')').toString();
    }

    private Method methodOf(String name) {
        Method method = methods.get(name);
        if (method == null) {
            throw new IllegalArgumentException("no such call: " + name);
        }
        return method;
    }
}
