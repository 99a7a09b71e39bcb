import java.util.ArrayList;
import java.util.Arrays;
import java.util.List;
import java.util.TreeSet;
import java.util.function.Consumer;

/**
 * Promises 2 to 38: each call with each two of its arguments at all edges of their ranges at once, answered by
 * the program and by PlainBench. Most of these calls are refused, and many for more than one reason.
 */
public final class EdgeGridTest {
    private static final int LEAST = Integer.MIN_VALUE;
    private static final int MOST = Integer.MAX_VALUE;

    private final Check check;
    private final List<Called> history;
    private PartcopyistBench bench;
    private PlainBench plain;
    private int calls;

    private EdgeGridTest(Check check, List<Called> history) {
        this.check = check;
        this.history = history;
        anew();
    }

    public static void main(String[] args) {
        Check check = new Check("EdgeGridTest");
        List<Consumer<Run>> benches = List.of(run -> { }, run -> run.score(5, 0), run -> run.score(0, 14),
                Run::small, Run::full);
        for (Consumer<Run> made : benches) {
            Run run = new Run(check, "EdgeGridTest");
            made.accept(run);
            new EdgeGridTest(check, run.history()).play();
        }
        check.end();
    }

    private void play() {
        int[] parts = edges(0, 2, 4);
        int[] bars = edges(0, 4, 13);
        int[] notes = edges(0, 4, 5, 31, 119);
        int[] pitches = edges(24, 96);
        int[] lengths = edges(1, 4, 12, 16, 32);
        all("addPart", edges(-12, 12));
        all("addBar", edges(1, 8), edges(-6, 6), null);
        all("setMark", bars, null);
        all("setKey", bars, edges(-6, 6));
        all("addNote", parts, bars, edges(0, 1), edges(0, 4, 12, 15, 31), lengths, pitches);
        all("correct", notes, pitches);
        all("stretch", notes, lengths);
        for (String name : new String[] {"takeOut", "pitchOf", "lengthOf", "written", "letterOf", "accidentalOf",
            "copied"}) {
            all(name, notes);
        }
        for (String name : new String[] {"notesIn", "isDivided", "writtenKey", "restFirst", "restBars", "cuePart",
            "pageEnd"}) {
            all(name, parts, bars);
        }
        all("noteAt", parts, bars, edges(0, 63));
        all("cuePitch", parts, edges(0, 1), edges(0, 63));
        for (String name : new String[] {"rests", "hardTurns", "hardTurnsByTrying", "pages", "copyOut", "carry",
            "differences", "differencesByComparing", "meanPitch", "restShare"}) {
            all(name, parts);
        }
        all("setPage", edges(1, 60));
        all("setTurn", edges(0, 64));
        all("setCue", edges(1, 14));
    }

    /** These numbers, those beside them, and the extremes. */
    private static int[] edges(int... numbers) {
        TreeSet<Integer> all = new TreeSet<>(List.of(LEAST, MOST));
        for (int number : numbers) {
            all.addAll(List.of(number - 1, number, number + 1));
        }
        return all.stream().mapToInt(number -> number).toArray();
    }

    /** Each two arguments at all of their edges, the others at the first that is within its range; null is a boolean. */
    private void all(String name, int[]... edges) {
        for (int first = 0; first < edges.length; first++) {
            for (int second = first; second < edges.length; second++) {
                for (Object one : values(edges[first])) {
                    for (Object other : values(edges[second])) {
                        Object[] arguments = plainArguments(edges);
                        arguments[first] = one;
                        arguments[second] = other;
                        compare(Called.of(name, arguments));
                    }
                }
            }
        }
    }

    private static List<Object> values(int[] edges) {
        List<Object> values = new ArrayList<>();
        if (edges == null) {
            values.addAll(List.of(false, true));
        } else {
            Arrays.stream(edges).forEach(values::add);
        }
        return values;
    }

    private static Object[] plainArguments(int[][] edges) {
        Object[] arguments = new Object[edges.length];
        for (int i = 0; i < edges.length; i++) {
            // The first is the least int, the second stands just ahead of the range.
            arguments[i] = edges[i] == null ? (Object) true : (Object) edges[i][2];
        }
        return arguments;
    }

    private void compare(Called call) {
        String due = call.answer(plain);
        check.same("behind " + history.size() + " calls: " + call, due, () -> call.answer(bench));
        calls++;
        boolean hasChanged = call.changes() && !due.startsWith("throws");
        if (hasChanged || calls >= Snapshot.CALLS_OF_AN_OBJECT) {
            anew();
        }
    }

    private void anew() {
        bench = new PartcopyistBench();
        plain = new PlainBench();
        for (Called call : history) {
            call.answer(bench);
            call.answer(plain);
        }
        calls = history.size();
    }
}
