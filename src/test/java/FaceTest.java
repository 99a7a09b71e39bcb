import java.lang.reflect.Constructor;
import java.lang.reflect.Field;
import java.lang.reflect.Method;
import java.lang.reflect.Modifier;
import java.util.ArrayList;
import java.util.Arrays;
import java.util.List;
import java.util.TreeSet;

/** The public face as the document lists it, and no other member that can be seen from outside. */
public final class FaceTest {
    private static final String I = "IndexOutOfBoundsException";
    private static final String A = "IllegalArgumentException";
    private static final String S = "IllegalStateException";
    private static final String U = "UnsupportedOperationException";
    private static final String N = "NoSuchElementException";
    private static final String M = "ArithmeticException";

    private static final String[] DUE = {
        face("int", "addPart", "int", A, S),
        face("int", "addBar", "int int boolean", A, S),
        face("boolean", "setMark", "int boolean", I),
        face("int", "setKey", "int int", I, A),
        face("int", "addNote", "int int int int int int", I, A, U, S),
        face("int", "correct", "int int", N, A),
        face("int", "stretch", "int int", N, A, U),
        face("int", "takeOut", "int", N),
        face("int", "notesIn", "int int", I),
        face("int", "noteAt", "int int int", I, N),
        face("int", "pitchOf", "int", N),
        face("int", "lengthOf", "int", N),
        face("boolean", "isDivided", "int int", I),
        face("int", "written", "int", N),
        face("int", "writtenKey", "int int", I),
        face("char", "letterOf", "int", N),
        face("int", "accidentalOf", "int", N),
        face("int", "rests", "int", I),
        face("int", "restFirst", "int int", I),
        face("int", "restBars", "int int", I),
        face("int", "setPage", "int", A),
        face("int", "setTurn", "int", A),
        face("int", "setCue", "int", A),
        face("int", "hardTurns", "int", I),
        face("int", "hardTurnsByTrying", "int", I),
        face("int", "pages", "int", I),
        face("int", "pageEnd", "int int", I, N),
        face("int", "cuePart", "int int", I, U),
        face("int", "cuePitch", "int int int", I, U, N),
        face("int", "copyOut", "int", I),
        face("int", "carry", "int", I, S),
        face("int", "differences", "int", I, S),
        face("int", "differencesByComparing", "int", I, S),
        face("int", "copied", "int", N, S),
        face("long", "ticks", ""),
        face("double", "meanPitch", "int", I, M),
        face("float", "restShare", "int", I, M),
        face("boolean", "isTrue", ""),
    };

    private static String face(String answer, String name, String parameters, String... exceptions) {
        return answer + " " + name + "(" + parameters + ") " + String.join(" ", exceptions);
    }

    public static void main(String[] args) {
        Check check = new Check("FaceTest");
        Class<?> bench = PartcopyistBench.class;
        check.same("the methods", new TreeSet<>(Arrays.asList(DUE)), () -> new TreeSet<>(methods(bench)));
        check.same("the class", "public final", () -> Modifier.toString(bench.getModifiers()));
        check.same("the constructors", "[public ()]", () -> constructors(bench));
        check.same("fields that can be seen", "[]", () -> openFields(bench));
        check.same("classes that can be seen", "[]", () -> openClasses(bench));
        check.same("methods named twice", "[]", () -> namedTwice(bench));
        check.end();
    }

    private static List<String> methods(Class<?> bench) {
        List<String> found = new ArrayList<>();
        for (Method method : bench.getDeclaredMethods()) {
            if (!Modifier.isPrivate(method.getModifiers())) {
                found.add(face(method.getReturnType().getName(), method.getName(),
                        names(method.getParameterTypes()), names(method.getExceptionTypes())));
            }
        }
        return found;
    }

    private static String names(Class<?>[] types) {
        List<String> names = new ArrayList<>();
        for (Class<?> type : types) {
            names.add(type.getSimpleName());
        }
        return String.join(" ", names);
    }

    private static List<String> constructors(Class<?> bench) {
        List<String> found = new ArrayList<>();
        for (Constructor<?> made : bench.getDeclaredConstructors()) {
            found.add(Modifier.toString(made.getModifiers()) + " (" + names(made.getParameterTypes()) + ")");
        }
        return found;
    }

    private static List<String> openFields(Class<?> bench) {
        List<String> found = new ArrayList<>();
        for (Field field : bench.getDeclaredFields()) {
            boolean isState = Modifier.isStatic(field.getModifiers()) && !Modifier.isFinal(field.getModifiers());
            if (!Modifier.isPrivate(field.getModifiers()) || isState) {
                found.add(field.getName());
            }
        }
        return found;
    }

    private static List<String> openClasses(Class<?> bench) {
        List<String> found = new ArrayList<>();
        for (Class<?> inside : bench.getDeclaredClasses()) {
            boolean isStatic = Modifier.isStatic(inside.getModifiers());
            if (Modifier.isPublic(inside.getModifiers()) || !isStatic) {
                found.add(inside.getSimpleName());
            }
        }
        return found;
    }

    /** LANGUAGE.md, rule 1: no private method bears the name of a public one. */
    private static List<String> namedTwice(Class<?> bench) {
        List<String> open = new ArrayList<>();
        for (Method method : bench.getDeclaredMethods()) {
            if (Modifier.isPublic(method.getModifiers())) {
                open.add(method.getName());
            }
        }
        List<String> twice = new ArrayList<>();
        List<Method> hidden = new ArrayList<>(Arrays.asList(bench.getDeclaredMethods()));
        for (Class<?> inside : bench.getDeclaredClasses()) {
            hidden.addAll(Arrays.asList(inside.getDeclaredMethods()));
        }
        for (Method method : hidden) {
            if (!Modifier.isPublic(method.getModifiers()) && open.contains(method.getName())) {
                twice.add(method.getName());
            }
        }
        return twice;
    }
}
