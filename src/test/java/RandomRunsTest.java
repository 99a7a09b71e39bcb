import java.lang.reflect.InvocationTargetException;
import java.lang.reflect.Method;
import java.lang.reflect.Modifier;
import java.util.ArrayList;
import java.util.Arrays;
import java.util.Comparator;
import java.util.List;

/** Promises 1 to 39: long runs of calls, each answered by the program and by PlainBench. */
public final class RandomRunsTest {
    private static final int RUNS = 200;
    private static final int CALLS = 512;
    private static final List<String> ADDING = List.of("addPart", "addBar", "addNote");
    private static final String[] CHANGING = {"setMark", "setKey", "correct", "correct", "stretch", "stretch",
        "takeOut", "setPage", "setPage", "setTurn", "setCue", "copyOut", "carry"};

    private final List<Method> face = new ArrayList<>();
    private final int run;
    private final int mostParts;
    private final int mostBars;
    private final int mostNotes;
    private final int longest;
    private int parts = 0;
    private int bars = 0;
    private int notes = 0;
    private long seed;

    private RandomRunsTest(int run) {
        this.run = run;
        this.seed = run * 7919L + 17;
        this.mostParts = 1 + run % 5;
        this.mostBars = run % 10 == 0 ? 14 : 1 + below(9);
        this.mostNotes = 2 + below(run % 4 == 0 ? 110 : 50);
        this.longest = run % 3 == 0 ? 2 : 7;
        for (Method method : PartcopyistBench.class.getDeclaredMethods()) {
            if (Modifier.isPublic(method.getModifiers())) {
                face.add(method);
            }
        }
        // The order in which the methods are told is not promised.
        face.sort(Comparator.comparing(Method::getName));
    }

    public static void main(String[] args) throws Exception {
        Check check = new Check("RandomRunsTest");
        for (int run = 0; run < RUNS; run++) {
            new RandomRunsTest(run).play(check);
        }
        check.end();
    }

    private void play(Check check) throws Exception {
        PartcopyistBench bench = new PartcopyistBench();
        PlainBench plain = new PlainBench();
        for (int call = 0; call < CALLS; call++) {
            Method method = named(choose());
            Object[] arguments = arguments(method.getName());
            Method twin = PlainBench.class.getDeclaredMethod(method.getName(), method.getParameterTypes());
            String due = answer(twin, plain, arguments);
            String what = "run " + run + " call " + call + " " + method.getName() + Arrays.toString(arguments);
            check.same(what, due, () -> answer(method, bench, arguments));
            countWhatWasAdded(method.getName(), due);
        }
    }

    private void countWhatWasAdded(String name, String due) {
        if (!due.startsWith("throws")) {
            parts += name.equals("addPart") ? 1 : 0;
            bars += name.equals("addBar") ? 1 : 0;
            notes += name.equals("addNote") ? 1 : 0;
        }
    }

    private static String answer(Method method, Object bench, Object[] arguments) {
        try {
            return String.valueOf(method.invoke(bench, arguments));
        } catch (InvocationTargetException e) {
            if (e.getCause() instanceof RuntimeException) {
                return "throws " + e.getCause().getClass().getSimpleName();
            }
            throw new IllegalStateException(e.getCause());
        } catch (IllegalAccessException e) {
            throw new IllegalStateException(e);
        }
    }

    private String choose() {
        int kind = below(10);
        if (kind < 6 && (parts < mostParts || bars < mostBars)) {
            return parts < mostParts && below(3) == 0 ? "addPart" : "addBar";
        }
        if (kind < 6 && notes < mostNotes) {
            return "addNote";
        }
        if (kind < 3) {
            return CHANGING[below(CHANGING.length)];
        }
        String name = face.get(below(face.size())).getName();
        return ADDING.contains(name) && below(10) > 0 ? "isTrue" : name;
    }

    private Method named(String name) {
        for (Method method : face) {
            if (method.getName().equals(name)) {
                return method;
            }
        }
        throw new IllegalStateException(name);
    }

    private Object[] arguments(String name) {
        switch (name) {
            case "addPart": return row(oneOf(-12, 12));
            case "addBar": return row(oneOf(1, 8), oneOf(-6, 6), below(5) == 0);
            case "setMark": return row(bar(), below(3) == 0);
            case "setKey": return row(bar(), oneOf(-6, 6));
            case "addNote": return row(part(), bar(), oneOf(0, 1), oneOf(0, 11), oneOf(1, longest), oneOf(24, 96));
            case "correct": return row(note(), oneOf(24, below(2) == 0 ? 26 : 96));
            case "stretch": return row(note(), oneOf(1, longest));
            case "notesIn": case "isDivided": case "writtenKey": return row(part(), bar());
            case "noteAt": return row(part(), bar(), oneOf(0, 3));
            case "takeOut": case "pitchOf": case "lengthOf": case "written": case "letterOf": case "accidentalOf":
            case "copied": return row(note());
            case "restFirst": case "restBars": case "cuePart": return row(part(), oneOf(0, 2));
            case "cuePitch": return row(part(), oneOf(0, 2), oneOf(0, 2));
            case "setPage": return row(oneOf(1, below(3) == 0 ? 60 : 9));
            case "setTurn": return row(oneOf(0, below(3) == 0 ? 64 : 12));
            case "setCue": return row(oneOf(1, below(3) == 0 ? 14 : 3));
            case "pageEnd": return row(part(), oneOf(0, 4));
            case "ticks": case "isTrue": return row();
            default: return row(part());
        }
    }

    private static Object[] row(Object... arguments) {
        return arguments;
    }

    private int part() {
        return oneOf(0, Math.max(0, parts - 1));
    }

    private int bar() {
        return oneOf(0, Math.max(0, bars - 1));
    }

    private int note() {
        return oneOf(0, Math.max(0, notes - 1));
    }

    /** A number from the lowest to the highest; now and then one beyond them, near or far. */
    private int oneOf(int lowest, int highest) {
        switch (below(80)) {
            case 0: return lowest - 1;
            case 1: return highest + 1;
            case 2: return below(2) == 0 ? Integer.MIN_VALUE : Integer.MAX_VALUE;
            default: return lowest + below(highest - lowest + 1);
        }
    }

    private int below(int end) {
        seed = seed * 6364136223846793005L + 1442695040888963407L;
        return (int) Math.floorMod(seed >>> 33, (long) end);
    }
}
