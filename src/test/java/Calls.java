import java.lang.reflect.InvocationTargetException;
import java.lang.reflect.Method;
import java.util.HashMap;
import java.util.Map;

/** Calls that are written as texts, such as "number(0, 3, 2)", made on the program or on its model. */
final class Calls {
    private static final Map<String, Method> METHODS = new HashMap<>();

    private Calls() {
    }

    static String text(String name, int... arguments) {
        StringBuilder text = new StringBuilder(name).append('(');
        for (int i = 0; i < arguments.length; i++) {
            text.append(i == 0 ? "" : ", ").append(arguments[i]);
        }
        return text.append(')').toString();
    }

    static int on(Object target, String call) {
        int open = call.indexOf('(');
        String[] parts = call.substring(open + 1, call.indexOf(')')).split(",");
        int[] arguments = new int[parts.length];
        for (int i = 0; i < parts.length; i++) {
            arguments[i] = number(parts[i].trim());
        }
        return on(target, call.substring(0, open).trim(), arguments);
    }

    static int on(Object target, String name, int... arguments) {
        Object[] boxed = new Object[arguments.length];
        for (int i = 0; i < arguments.length; i++) {
            boxed[i] = arguments[i];
        }
        try {
            return (Integer) method(target.getClass(), name).invoke(target, boxed);
        } catch (InvocationTargetException thrown) {
            throw new IllegalStateException(text(name, arguments) + " threw", thrown.getCause());
        } catch (IllegalAccessException closed) {
            throw new IllegalStateException(name, closed);
        }
    }

    private static Method method(Class<?> owner, String name) {
        return METHODS.computeIfAbsent(owner.getName() + "." + name, key -> {
            for (Method method : owner.getDeclaredMethods()) {
                // The model has helpers of the same name; calls have ints alone.
                if (method.getName().equals(name) && takesInts(method)) {
                    return method;
                }
            }
            throw new IllegalStateException("no call " + key);
        });
    }

    private static boolean takesInts(Method method) {
        for (Class<?> type : method.getParameterTypes()) {
            if (type != int.class) {
                return false;
            }
        }
        return method.getReturnType() == int.class;
    }

    /** A written number; MIN and MAX are the least and the greatest int, a bar joins bits: 1<<0|1<<3. */
    private static int number(String written) {
        if (written.equals("MIN")) {
            return Integer.MIN_VALUE;
        }
        if (written.equals("MAX")) {
            return Integer.MAX_VALUE;
        }
        int number = 0;
        for (String part : written.split("\\|")) {
            int shift = part.indexOf("<<");
            number |= shift < 0 ? Integer.parseInt(part)
                : Integer.parseInt(part.substring(0, shift)) << Integer.parseInt(part.substring(shift + 2));
        }
        return number;
    }
}
