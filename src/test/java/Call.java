import java.lang.reflect.Method;
import java.lang.reflect.Modifier;
import java.util.Arrays;
import java.util.HashMap;
import java.util.Map;
import java.util.stream.Collectors;

/** A call of a method of the face, by name; it can be made on the class and on the naive program. */
final class Call {
    private static final Map<Class<?>, Map<String, Method>> FACES = new HashMap<>();

    private final String name;
    private final int[] arguments;

    Call(String name, int... arguments) {
        this.name = name;
        this.arguments = arguments;
    }

    String text() {
        return name + Arrays.stream(arguments).mapToObj(Integer::toString).collect(Collectors.joining(", ", "(", ")"));
    }

    int on(Object families) {
        Method method = FACES.computeIfAbsent(families.getClass(), Call::face).get(name);
        if (method == null || method.getParameterCount() != arguments.length) {
            throw new IllegalStateException("there is no " + text());
        }
        try {
            return (Integer) method.invoke(families, Arrays.stream(arguments).boxed().toArray());
        } catch (ReflectiveOperationException thrown) {
            throw new IllegalStateException(text() + " threw", thrown);
        }
    }

    private static Map<String, Method> face(Class<?> families) {
        Map<String, Method> face = new HashMap<>();
        for (Method method : families.getDeclaredMethods()) {
            if (!Modifier.isPrivate(method.getModifiers())) {
                face.put(method.getName(), method);
            }
        }
        return face;
    }
}
