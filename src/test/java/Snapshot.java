import java.util.ArrayList;
import java.util.List;

/**
 * All that a bench tells once these calls have been made. What can only be told by a call that changes
 * something is asked last, and as an object is used for 512 calls, several objects are asked.
 */
final class Snapshot {
    static final int CALLS_OF_AN_OBJECT = 512;

    private final List<Called> history;
    private final int parts;
    private final int bars;
    private final int notes;

    Snapshot(List<Called> history) {
        this.history = history;
        this.parts = count("addPart");
        this.bars = count("addBar");
        this.notes = count("addNote");
    }

    private int count(String name) {
        return (int) history.stream().filter(call -> call.name().equals(name)).count();
    }

    /** What is told if one more call was made, which is refused; or none, if it is null. */
    List<String> toldBehind(Called refused) {
        List<String> told = new ArrayList<>();
        List<Called> questions = questions();
        int room = CALLS_OF_AN_OBJECT - history.size() - 1;
        if (room < probes().size()) {
            throw new IllegalStateException("no calls are left to ask");
        }
        for (int from = 0; from < questions.size(); from += room) {
            List<Called> some = questions.subList(from, Math.min(from + room, questions.size()));
            told.addAll(answers(some, refused));
        }
        told.addAll(answers(probes(), refused));
        return told;
    }

    private List<String> answers(List<Called> calls, Called refused) {
        PartcopyistBench bench = bench();
        if (refused != null) {
            refused.answer(bench);
        }
        List<String> told = new ArrayList<>();
        for (Called call : calls) {
            told.add(call + " " + call.answer(bench));
        }
        return told;
    }

    PartcopyistBench bench() {
        PartcopyistBench bench = new PartcopyistBench();
        for (Called call : history) {
            call.answer(bench);
        }
        return bench;
    }

    /** Calls that change nothing, one part, bar, note and index beyond the last included. */
    List<Called> questions() {
        List<Called> calls = new ArrayList<>(List.of(Called.of("ticks"), Called.of("isTrue")));
        for (int part = 0; part <= parts; part++) {
            for (String name : new String[] {"rests", "hardTurns", "hardTurnsByTrying", "pages", "differences",
                "differencesByComparing", "meanPitch", "restShare"}) {
                calls.add(Called.of(name, part));
            }
            for (int n = 0; n <= bars; n++) {
                for (String name : new String[] {"restFirst", "restBars", "cuePart", "pageEnd", "notesIn",
                    "isDivided", "writtenKey"}) {
                    calls.add(Called.of(name, part, n));
                }
                calls.add(Called.of("cuePitch", part, n, 0));
                calls.add(Called.of("noteAt", part, n, 0));
                calls.add(Called.of("noteAt", part, n, 1));
            }
        }
        for (int note = 0; note <= notes; note++) {
            for (String name : new String[] {"pitchOf", "lengthOf", "written", "letterOf", "accidentalOf", "copied"}) {
                calls.add(Called.of(name, note));
            }
        }
        return calls;
    }

    /** Calls whose answers tell what was set before. */
    private List<Called> probes() {
        List<Called> calls = new ArrayList<>(List.of(Called.of("setPage", 1), Called.of("setTurn", 1),
                Called.of("setCue", 1)));
        for (int bar = 0; bar < bars; bar++) {
            calls.add(Called.of("setMark", bar, false));
            calls.add(Called.of("setKey", bar, 0));
        }
        for (int part = 0; part < parts; part++) {
            calls.add(Called.of("carry", part));
        }
        calls.add(Called.of("addPart", 0));
        calls.add(Called.of("addBar", 8, 0, false));
        // Where the bench is not full, this bar is new, so that the note finds room in it.
        calls.add(Called.of("addNote", 0, bars, 0, 0, 1, 60));
        return calls;
    }
}
