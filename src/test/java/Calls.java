import java.lang.reflect.InvocationTargetException;
import java.lang.reflect.Method;
import java.lang.reflect.Modifier;
import java.util.HashMap;
import java.util.Map;

/** The public calls of a class by their names; the two that are named work are work1 and work2. */
final class Calls {
    static final Calls FACE = new Calls(Stevedore.class);

    private final Map<String, Method> methods = new HashMap<>();

    Calls(Class<?> type) {
        for (Method method : type.getDeclaredMethods()) {
            if (Modifier.isPublic(method.getModifiers())) {
                method.setAccessible(true);
                methods.put(keyOf(method), method);
            }
        }
    }

    private static String keyOf(Method method) {
        return method.getName() + (method.getName().equals("work") ? method.getParameterCount() : "");
    }

    /** What the call answers, or which exception it throws; true and false are given as 1 and 0. */
    String told(Object object, String name, int... numbers) {
        Method method = methods.get(name);
        if (method == null) {
            throw new IllegalArgumentException("no call " + name);
        }
        Object[] given = new Object[numbers.length];
        for (int i = 0; i < numbers.length; i++) {
            boolean isTold = method.getParameterTypes()[i] == boolean.class;
            given[i] = isTold ? (Object) (numbers[i] == 1) : (Object) numbers[i];
        }
        try {
            return method.invoke(object, given).toString();
        } catch (InvocationTargetException thrown) {
            return "throws " + thrown.getCause().getClass().getName();
        } catch (IllegalAccessException shut) {
            throw new IllegalStateException(shut);
        }
    }
}
