import java.util.ArrayList;
import java.util.Arrays;
import java.util.List;
import java.util.NoSuchElementException;
import java.util.stream.Stream;

/** Calls on a bench, each with the answer that is due; a refused call has to change nothing. */
final class Run {
    static final int LEAST = Integer.MIN_VALUE;
    static final int MOST = Integer.MAX_VALUE;
    static final Class<IllegalArgumentException> ARGUMENT = IllegalArgumentException.class;
    static final Class<IllegalStateException> STATE = IllegalStateException.class;
    static final Class<IndexOutOfBoundsException> INDEX = IndexOutOfBoundsException.class;
    static final Class<UnsupportedOperationException> UNSUPPORTED = UnsupportedOperationException.class;
    static final Class<NoSuchElementException> NONE = NoSuchElementException.class;
    static final Class<ArithmeticException> ARITHMETIC = ArithmeticException.class;
    /** Among arguments, the place for the one that is wrong. */
    static final String HERE = "here";

    private final Check check;
    private final String sentence;
    private final List<Called> history = new ArrayList<>();
    private PartcopyistBench bench;
    private int calls;
    /** What is told behind the calls of the history; null if that was not asked yet. */
    private List<String> told;

    Run(Check check, String sentence) {
        this.check = check;
        this.sentence = sentence;
        anew();
    }

    /** Goes on with a new bench. */
    void anew() {
        bench = new PartcopyistBench();
        history.clear();
        calls = 0;
        told = null;
    }

    /** The calls that were not refused, and that could change something. */
    List<Called> history() {
        return List.copyOf(history);
    }

    void due(Object due, String name, Object... arguments) {
        Called call = Called.of(name, arguments);
        String answer = made(call);
        check.same(sentence + ": " + call, due, () -> answer);
        if (call.changes()) {
            history.add(call);
            told = null;
        }
    }

    /** A call that is not to be refused. */
    void does(String name, Object... arguments) {
        Called call = Called.of(name, arguments);
        String answer = made(call);
        check.same(sentence + ": " + call + " is not refused", false, () -> answer.startsWith("throws"));
        history.add(call);
        told = null;
    }

    private String made(Called call) {
        calls++;
        if (calls > Snapshot.CALLS_OF_AN_OBJECT) {
            throw new IllegalStateException("more calls than an object is used for: " + sentence);
        }
        return call.answer(bench);
    }

    void refused(Class<? extends RuntimeException> due, String name, Object... arguments) {
        Called call = Called.of(name, arguments);
        String answer = made(call);
        check.same(sentence + ": " + call, "throws " + due.getSimpleName(), () -> answer);
        Snapshot snapshot = new Snapshot(history);
        told = told == null ? snapshot.toldBehind(null) : told;
        List<String> behind = snapshot.toldBehind(call);
        for (int i = 0; i < told.size(); i++) {
            String after = behind.get(i);
            check.same(sentence + ": behind the refused " + call, told.get(i), () -> after);
        }
    }

    /** Refused with the first numbers that are beyond a range, and with the last ones that there are. */
    void outside(int first, int last, Class<? extends RuntimeException> due, String name, Object... arguments) {
        for (int wrong : new int[] {first - 1, last + 1, LEAST, MOST}) {
            refused(due, name, with(wrong, arguments));
        }
    }

    private static Object[] with(int value, Object... arguments) {
        return Arrays.stream(arguments).map(argument -> HERE.equals(argument) ? value : argument).toArray();
    }

    void noSuchPart(String name, Object... arguments) {
        anew();
        outside(0, -1, INDEX, name, arguments);
        small();
        outside(0, 2, INDEX, name, arguments);
        full();
        outside(0, 4, INDEX, name, arguments);
    }

    /** Refused in a bench that has the parts, but not these bars. */
    void noSuchBar(String name, Object... arguments) {
        anew();
        score(3, 0);
        outside(0, -1, INDEX, name, arguments);
        small();
        outside(0, 4, INDEX, name, arguments);
        full();
        outside(0, 13, INDEX, name, arguments);
    }

    /** Refused until there is a part and a bar, and then for the numbers behind them; ends with one of each. */
    void noPartOrBar(String name, Object... others) {
        refused(INDEX, name, join(0, 0, others));
        score(2, 0);
        refused(INDEX, name, join(0, 0, others));
        anew();
        score(0, 2);
        refused(INDEX, name, join(0, 0, others));
        anew();
        score(1, 1);
        refused(INDEX, name, join(1, 0, others));
        refused(INDEX, name, join(0, 1, others));
        refused(INDEX, name, join(MOST, LEAST, others));
    }

    private static Object[] join(int part, int bar, Object... others) {
        return Stream.concat(Stream.of(part, bar), Arrays.stream(others)).toArray();
    }

    void noSuchNote(String name, Object... arguments) {
        anew();
        outside(0, -1, NONE, name, arguments);
        small();
        outside(0, 5, NONE, name, arguments);
        full();
        outside(0, 119, NONE, name, arguments);
    }

    void takenOut(String name, Object... arguments) {
        small();
        refused(NONE, name, with(4, arguments));
        full();
        for (int note : new int[] {0, 119}) {
            does("takeOut", note);
            refused(NONE, name, with(note, arguments));
        }
    }

    /** Looks at all long rests of a part, told as first bar and number of bars. */
    void rests(String due, int part) {
        String[] all = due.isEmpty() ? new String[0] : due.split(" ");
        due(all.length, "rests", part);
        for (int rest = 0; rest < all.length; rest++) {
            String[] told = all[rest].split("[+]");
            due(told[0], "restFirst", part, rest);
            due(told[1], "restBars", part, rest);
        }
        refused(INDEX, "restFirst", part, all.length);
        refused(INDEX, "restBars", part, all.length);
    }

    /** Looks at all pages of a part, told by their last bars, and at the turns that are not free. */
    void pages(int hardTurns, String ends, int part) {
        String[] all = ends.isEmpty() ? new String[0] : ends.split(" ");
        due(hardTurns, "hardTurns", part);
        due(hardTurns, "hardTurnsByTrying", part);
        due(all.length, "pages", part);
        for (int page = 0; page < all.length; page++) {
            due(all[page], "pageEnd", part, page);
        }
        refused(NONE, "pageEnd", part, all.length);
    }

    void differences(int due, int part) {
        due(due, "differences", part);
        due(due, "differencesByComparing", part);
        due(true, "isTrue");
    }

    /** Each question has the same answer, whatever was asked ahead of it. */
    void questionsChangeNothing() {
        Snapshot snapshot = new Snapshot(history);
        List<Called> questions = snapshot.questions();
        PartcopyistBench forward = snapshot.bench();
        PartcopyistBench backward = snapshot.bench();
        String[] due = new String[questions.size()];
        for (int i = 0; i < due.length; i++) {
            due[i] = questions.get(i).answer(forward);
        }
        for (int i = due.length - 1; i >= 0; i--) {
            Called question = questions.get(i);
            check.same(sentence + ": backward " + question, due[i], () -> question.answer(backward));
        }
    }

    /** Adds parts with shift 0 and bars of 16 ticks, without marks. */
    void score(int parts, int bars) {
        for (int part = 0; part < parts; part++) {
            does("addPart", 0);
        }
        for (int bar = 0; bar < bars; bar++) {
            does("addBar", 4, 0, false);
        }
    }

    /** Adds a bar with notes of length 1 of part 0, at these ticks. */
    void bar(int beats, int... ticks) {
        int bar = (int) history.stream().filter(call -> call.name().equals("addBar")).count();
        does("addBar", beats, 0, false);
        notes(0, bar, 0, ticks);
    }

    /** Adds a bar of 32 ticks with so many notes of part 0: in voice 0, and when that is full, in voice 1. */
    void barOf(int count) {
        int bar = (int) history.stream().filter(call -> call.name().equals("addBar")).count();
        does("addBar", 8, 0, false);
        for (int i = 0; i < count; i++) {
            notes(0, bar, i / 32, i % 32);
        }
    }

    /** Puts notes of length 1 in, with pitch 60. */
    void notes(int part, int bar, int voice, int... ticks) {
        for (int tick : ticks) {
            does("addNote", part, bar, voice, tick, 1, 60);
        }
    }

    /** A new bench: three parts, the first one copied, five bars, and six notes of which one was taken out. */
    void small() {
        anew();
        does("addPart", 2);
        does("addPart", -3);
        does("addPart", 0);
        for (int bar = 0; bar < 5; bar++) {
            does("addBar", 4, bar - 2, bar == 3);
        }
        does("addNote", 0, 0, 0, 4, 4, 60);
        does("addNote", 0, 0, 0, 12, 2, 62);
        does("addNote", 0, 4, 1, 0, 4, 64);
        does("addNote", 1, 2, 0, 0, 4, 65);
        does("addNote", 0, 0, 1, 0, 16, 67);
        does("takeOut", 4);
        does("copyOut", 0);
        does("correct", 1, 61);
        does("addNote", 0, 3, 0, 0, 1, 69);
        does("setPage", 3);
        does("setTurn", 9);
    }

    /** A new bench with all parts, bars and notes that there can be; the first bar is full for part 0. */
    void full() {
        anew();
        for (int shift : new int[] {0, -12, 12, 7, -5}) {
            does("addPart", shift);
        }
        for (int bar = 0; bar < 14; bar++) {
            does("addBar", 8, bar % 12 - 6, false);
        }
        for (int i = 0; i < 64; i++) {
            does("addNote", 0, 0, i / 32, i % 32, 1, 24 + i);
        }
        for (int i = 0; i < 56; i++) {
            does("addNote", 1 + i % 4, 1 + i % 13, i % 2, i / 4, 1, 96 - i);
        }
    }
}
