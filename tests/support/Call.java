import java.lang.reflect.InvocationTargetException;
import java.lang.reflect.Method;
import java.lang.reflect.Modifier;
import java.util.Arrays;
import java.util.Map;
import java.util.TreeMap;
import java.util.stream.Collectors;

/** A call of the public face; an exception that it throws is answered as throws. and its name. */
record Call(String name, Object... arguments) {
    private static final Map<String, Method> FACE = face();

    static boolean isRefusal(String answer) {
        return answer.startsWith("throws.");
    }

    /** The methods of the face in the order of their names; no two have the same name. */
    static Map<String, Method> face() {
        Map<String, Method> face = new TreeMap<>();
        for (Method method : WindElection.class.getDeclaredMethods()) {
            if (Modifier.isPublic(method.getModifiers())) {
                face.put(method.getName(), method);
            }
        }
        return face;
    }

    String on(WindElection election) {
        try {
            return String.valueOf(FACE.get(name).invoke(election, arguments));
        } catch (InvocationTargetException e) {
            return "throws." + e.getCause().getClass().getSimpleName();
        } catch (IllegalAccessException e) {
            throw new LinkageError(name, e);
        }
    }

    @Override
    public String toString() {
        return name + Arrays.stream(arguments).map(String::valueOf).collect(Collectors.joining(", ", "(", ")"));
    }
}
