import java.lang.reflect.InvocationTargetException;
import java.lang.reflect.Method;
import java.lang.reflect.Modifier;
import java.util.HashMap;
import java.util.List;
import java.util.Map;
import java.util.Set;

/** One call of the bench: the name of the method and its arguments. */
record Called(String name, List<Object> arguments) {
    private static final Set<String> CHANGING = Set.of("addPart", "addBar", "setMark", "setKey", "addNote", "correct",
            "stretch", "takeOut", "setPage", "setTurn", "setCue", "copyOut", "carry");
    private static final Map<String, Method> FACE = face(PartcopyistBench.class);
    private static final Map<String, Method> PLAIN = face(PlainBench.class);

    static Called of(String name, Object... arguments) {
        return new Called(name, List.of(arguments));
    }

    private static Map<String, Method> face(Class<?> made) {
        Map<String, Method> face = new HashMap<>();
        for (Method method : made.getDeclaredMethods()) {
            if (Modifier.isPublic(method.getModifiers())) {
                face.put(method.getName(), method);
            }
        }
        return face;
    }

    /** The names of all calls of the face. */
    static Set<String> names() {
        return FACE.keySet();
    }

    boolean changes() {
        return CHANGING.contains(name);
    }

    /** The answer as a text, or "throws" and the very class of the exception. */
    String answer(PartcopyistBench bench) {
        return answer(FACE, bench);
    }

    String answer(PlainBench bench) {
        return answer(PLAIN, bench);
    }

    private String answer(Map<String, Method> face, Object bench) {
        try {
            return String.valueOf(face.get(name).invoke(bench, arguments.toArray()));
        } catch (InvocationTargetException e) {
            return "throws " + e.getCause().getClass().getSimpleName();
        } catch (IllegalAccessException e) {
            throw new IllegalStateException(e);
        }
    }

    @Override
    public String toString() {
        return name + arguments;
    }
}
