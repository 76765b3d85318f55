import java.lang.reflect.InvocationTargetException;
import java.lang.reflect.Method;
import java.lang.reflect.Modifier;
import java.util.Arrays;
import java.util.HashMap;
import java.util.List;
import java.util.Map;
import java.util.Set;
import java.util.TreeSet;

/** A call of the face by its name, which can be made on several sorters. */
final class Call {
    // What only asks is not needed to bring a second sorter to the same state.
    private static final List<String> CHANGERS = List.of("setLoop", "addChute", "setCapacity", "setLimit", "jam",
            "free", "arrive", "pass", "startWave", "assign", "unassign", "dispatch");
    private static final Map<String, Method> METHODS = methods();

    private final String name;
    private final int[] arguments;

    Call(String name, int... arguments) {
        this.name = name;
        this.arguments = arguments;
    }

    private static Map<String, Method> methods() {
        Map<String, Method> methods = new HashMap<>();
        for (Method method : CrossdockSorter.class.getDeclaredMethods()) {
            if (Modifier.isPublic(method.getModifiers())) {
                methods.put(method.getName(), method);
            }
        }
        return methods;
    }

    /** The names of all calls of the face. */
    static Set<String> names() {
        return new TreeSet<>(METHODS.keySet());
    }

    boolean changes() {
        return CHANGERS.contains(name);
    }

    /** The answer, or the class of the exception that the call throws. */
    Object on(CrossdockSorter sorter) {
        Object[] boxed = Arrays.stream(arguments).boxed().toArray();
        try {
            return METHODS.get(name).invoke(sorter, boxed);
        } catch (InvocationTargetException e) {
            Checks.dueThrownByCode(toString(), e.getCause());
            return e.getCause().getClass();
        } catch (IllegalAccessException e) {
            throw new IllegalStateException(e);
        }
    }

    @Override
    public String toString() {
        String list = Arrays.toString(arguments);
        return name + "(" + list.substring(1, list.length() - 1) + ")";
    }
}
