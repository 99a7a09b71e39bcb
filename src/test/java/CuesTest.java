import java.util.NoSuchElementException;

/** Promises 24, 29 and 30: setCue, cuePart, cuePitch. */
public final class CuesTest {
    private static final Class<IllegalArgumentException> ARGUMENT = IllegalArgumentException.class;
    private static final Class<IndexOutOfBoundsException> INDEX = IndexOutOfBoundsException.class;
    private static final Class<UnsupportedOperationException> CUELESS = UnsupportedOperationException.class;
    private static final Class<NoSuchElementException> NONE = NoSuchElementException.class;

    private static final Check check = new Check("CuesTest");

    public static void main(String[] args) {
        setCue();
        whenThereIsACue();
        fromWhichPart();
        whichNotes();
        emptyBarFollows();
        wrongArguments();
        check.end();
    }

    private static void setCue() {
        PartcopyistBench bench = new PartcopyistBench();
        check.same("promise 24: before", 2, () -> bench.setCue(14));
        check.same("promise 24: the most", 14, () -> bench.setCue(1));
        check.thrown("promise 24: 0", ARGUMENT, () -> bench.setCue(0));
        check.thrown("promise 24: 15", ARGUMENT, () -> bench.setCue(15));
        check.thrown("promise 24: least", ARGUMENT, () -> bench.setCue(Integer.MIN_VALUE));
        check.same("promise 24: the least", 1, () -> bench.setCue(2));
    }

    /** Four parts with shifts 2, 0, -3, 5 and bars of 16 ticks; part 0 has a note in bar 3. */
    private static PartcopyistBench bench() {
        PartcopyistBench bench = new PartcopyistBench();
        bench.addPart(2);
        bench.addPart(0);
        bench.addPart(-3);
        bench.addPart(5);
        for (int bar = 0; bar < 4; bar++) {
            bench.addBar(4, 0, false);
        }
        bench.addNote(0, 3, 0, 0, 4, 60);
        return bench;
    }

    private static void whenThereIsACue() {
        PartcopyistBench bench = bench();
        check.thrown("promise 29: no other part has notes", CUELESS, () -> bench.cuePart(0, 0));
        bench.addNote(1, 1, 0, 0, 4, 60);
        check.thrown("promise 29: not in the last bar", CUELESS, () -> bench.cuePart(0, 0));
        int note = bench.addNote(1, 2, 0, 0, 4, 60);
        check.same("promise 29: in the last bar", 1, () -> bench.cuePart(0, 0));
        bench.setCue(3);
        check.same("promise 29: three bars", 1, () -> bench.cuePart(0, 0));
        bench.setCue(4);
        check.thrown("promise 29: too short", CUELESS, () -> bench.cuePart(0, 0));
        bench.setCue(1);
        bench.setMark(2, true);
        check.same("promise 29: one bar behind a mark", 1, () -> bench.cuePart(0, 1));
        check.same("promise 29: the rest ahead of it", 1, () -> bench.cuePart(0, 0));
        bench.takeOut(note);
        check.thrown("promise 29: taken out", CUELESS, () -> bench.cuePart(0, 1));
        check.thrown("promise 29: no bar follows", CUELESS, () -> bench.cuePart(1, 1));
    }

    private static void fromWhichPart() {
        PartcopyistBench bench = bench();
        bench.addNote(3, 2, 0, 0, 4, 60);
        check.same("promise 29: the only one", 3, () -> bench.cuePart(0, 0));
        bench.addNote(2, 2, 0, 0, 4, 60);
        check.same("promise 29: the lowest number", 2, () -> bench.cuePart(0, 0));
        bench.addNote(3, 2, 1, 8, 1, 60);
        check.same("promise 29: the most notes", 3, () -> bench.cuePart(0, 0));
        bench.addNote(1, 1, 0, 0, 1, 60);
        bench.addNote(1, 1, 0, 1, 1, 60);
        bench.addNote(1, 1, 0, 2, 1, 60);
        check.same("promise 29: only those of the last bar", 3, () -> bench.cuePart(0, 0));
        bench.addBar(4, 0, false);
        check.thrown("promise 29: the rest goes on to the end", CUELESS, () -> bench.cuePart(1, 1));
        bench.addNote(1, 4, 0, 0, 1, 60);
        check.same("promise 29: for another part", 0, () -> bench.cuePart(1, 1));
    }

    private static void whichNotes() {
        PartcopyistBench bench = bench();
        bench.addNote(2, 2, 1, 8, 1, 70);
        bench.addNote(2, 2, 0, 8, 1, 71);
        bench.addNote(2, 2, 1, 0, 1, 72);
        bench.addNote(2, 1, 0, 0, 1, 73);
        check.same("promise 30: written for the part that rests", 74, () -> bench.cuePitch(0, 0, 0));
        check.same("promise 30: in their order", 73, () -> bench.cuePitch(0, 0, 1));
        check.same("promise 30: then by voice", 72, () -> bench.cuePitch(0, 0, 2));
        check.thrown("promise 30: index 3", NONE, () -> bench.cuePitch(0, 0, 3));
        check.thrown("promise 30: index -1", NONE, () -> bench.cuePitch(0, 0, -1));
        check.thrown("promise 30: the most", NONE, () -> bench.cuePitch(0, 0, Integer.MAX_VALUE));
        bench.correct(3, 24);
        check.same("promise 30: corrected", 26, () -> bench.cuePitch(0, 0, 0));
        bench.setCue(4);
        check.thrown("promise 30: too short", CUELESS, () -> bench.cuePitch(0, 0, 0));
        check.thrown("promise 30: the cue before the index", CUELESS, () -> bench.cuePitch(0, 0, -1));
    }

    private static void emptyBarFollows() {
        PartcopyistBench bench = bench();
        bench.setMark(2, true);
        bench.addNote(1, 1, 0, 0, 4, 60);
        check.same("promise 29: the bar that follows may be empty", 1, () -> bench.cuePart(0, 0));
        check.same("promise 30: the bar that follows may be empty", 62, () -> bench.cuePitch(0, 0, 0));
    }

    private static void wrongArguments() {
        PartcopyistBench bench = bench();
        bench.addNote(1, 2, 0, 0, 4, 60);
        for (int wrong : new int[] {-1, 4, 5, Integer.MIN_VALUE, Integer.MAX_VALUE}) {
            check.thrown("promise 29: part " + wrong, INDEX, () -> bench.cuePart(wrong, 0));
            check.thrown("promise 29: rest " + wrong, INDEX, () -> bench.cuePart(0, wrong));
            check.thrown("promise 30: part " + wrong, INDEX, () -> bench.cuePitch(wrong, 0, -1));
            check.thrown("promise 30: rest " + wrong, INDEX, () -> bench.cuePitch(0, wrong, -1));
        }
        check.thrown("promise 29: the rest before the cue", INDEX, () -> bench.cuePart(0, 1));
    }
}
