import java.lang.reflect.InvocationTargetException;
import java.lang.reflect.Method;
import java.util.HashMap;
import java.util.Map;

/** Calls by name, so that one list of calls serves the class and the model. */
final class Calls {
    private final Object target;
    private final Map<String, Method> methods = new HashMap<>();

    Calls(Object target) {
        this.target = target;
        // the names are those of the class: the model may have helpers of its own
        for (Method face : RubbedColours.class.getDeclaredMethods()) {
            if (java.lang.reflect.Modifier.isPublic(face.getModifiers())) {
                methods.put(face.getName(), find(target.getClass(), face));
            }
        }
    }

    private static Method find(Class<?> owner, Method face) {
        try {
            return owner.getDeclaredMethod(face.getName(), face.getParameterTypes());
        } catch (NoSuchMethodException missing) {
            throw new IllegalStateException(missing);
        }
    }

    /** A boolean is given as 0 or 1. */
    int answer(String name, int... args) {
        Method method = methods.get(name);
        Class<?>[] types = method.getParameterTypes();
        Object[] given = new Object[args.length];
        for (int i = 0; i < args.length; i++) {
            if (types[i] == boolean.class) {
                given[i] = args[i] != 0;
            } else {
                given[i] = args[i];
            }
        }
        try {
            return (int) method.invoke(target, given);
        } catch (IllegalAccessException | InvocationTargetException thrown) {
            throw new IllegalStateException(name + " threw", thrown);
        }
    }
}
