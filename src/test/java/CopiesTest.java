import java.util.NoSuchElementException;

/** Promises 31 to 35: copyOut, carry, differences, differencesByComparing, copied. */
public final class CopiesTest {
    private static final Class<IllegalStateException> STATE = IllegalStateException.class;
    private static final Class<IndexOutOfBoundsException> INDEX = IndexOutOfBoundsException.class;
    private static final Class<NoSuchElementException> NONE = NoSuchElementException.class;

    private static final Check check = new Check("CopiesTest");

    public static void main(String[] args) {
        copyOfAnEmptyPart();
        corrections();
        notesPutInAndTakenOut();
        copyInPlaceOfAnother();
        copied();
        wrongArguments();
        check.end();
    }

    /** Parts with shifts 2 and -3; part 0 has the notes 0 to 2, part 1 the note 3. */
    private static PartcopyistBench bench() {
        PartcopyistBench bench = new PartcopyistBench();
        bench.addPart(2);
        bench.addPart(-3);
        bench.addBar(4, 0, false);
        bench.addBar(4, 0, false);
        bench.addNote(0, 0, 0, 0, 4, 60);
        bench.addNote(0, 0, 0, 4, 4, 62);
        bench.addNote(0, 1, 1, 0, 4, 64);
        bench.addNote(1, 0, 0, 0, 4, 65);
        return bench;
    }

    private static void same(String what, int due, PartcopyistBench bench, int part) {
        check.same("promise 33: " + what, due, () -> bench.differences(part));
        check.same("promise 34: " + what, due, () -> bench.differencesByComparing(part));
        check.same("promise 39: " + what, true, bench::isTrue);
    }

    private static void copyOfAnEmptyPart() {
        PartcopyistBench bench = new PartcopyistBench();
        bench.addPart(0);
        check.same("promise 31: no notes", 0, () -> bench.copyOut(0));
        same("no notes", 0, bench, 0);
        bench.addBar(4, 0, false);
        bench.addNote(0, 0, 0, 0, 4, 60);
        same("one put in", 1, bench, 0);
        check.same("promise 32: one put in", 1, () -> bench.carry(0));
        check.same("promise 32: none is left", 0, () -> bench.carry(0));
        check.same("promise 35: carried", 60, () -> bench.copied(0));
    }

    private static void corrections() {
        PartcopyistBench bench = bench();
        check.same("promise 31: three notes", 3, () -> bench.copyOut(0));
        same("none yet", 0, bench, 0);
        bench.correct(0, 61);
        same("one corrected", 1, bench, 0);
        bench.stretch(0, 2);
        same("twice the same note", 1, bench, 0);
        bench.stretch(1, 2);
        same("another stretched", 2, bench, 0);
        bench.correct(3, 70);
        same("another part", 2, bench, 0);
        bench.correct(0, 60);
        same("the length alone", 2, bench, 0);
        bench.stretch(0, 4);
        same("as it was", 1, bench, 0);
        bench.correct(2, 64);
        same("corrected to the same", 1, bench, 0);
        check.same("promise 32: one", 1, () -> bench.carry(0));
        same("carried", 0, bench, 0);
        bench.stretch(1, 4);
        same("as it was before it was carried", 1, bench, 0);
        check.thrown("promise 33: the other part", STATE, () -> bench.differences(1));
        check.same("promise 31: the other part", 1, () -> bench.copyOut(1));
        same("still one", 1, bench, 0);
        same("its own", 0, bench, 1);
    }

    private static void notesPutInAndTakenOut() {
        PartcopyistBench bench = bench();
        bench.copyOut(0);
        bench.takeOut(1);
        same("taken out", 1, bench, 0);
        int added = bench.addNote(0, 0, 0, 4, 4, 62);
        same("another in its place is another", 2, bench, 0);
        bench.takeOut(added);
        same("in neither", 1, bench, 0);
        check.same("promise 32: taken out", 1, () -> bench.carry(0));
        same("gone", 0, bench, 0);
        bench.addNote(1, 1, 0, 4, 4, 62);
        same("put in another part", 0, bench, 0);
        bench.correct(0, 30);
        bench.takeOut(0);
        same("corrected and taken out is one", 1, bench, 0);
    }

    private static void copyInPlaceOfAnother() {
        PartcopyistBench bench = bench();
        bench.copyOut(0);
        bench.correct(0, 61);
        bench.takeOut(1);
        bench.addNote(0, 1, 0, 0, 1, 70);
        bench.addNote(0, 1, 0, 1, 1, 71);
        check.same("promise 31: in place of the earlier one", 4, () -> bench.copyOut(0));
        same("the new copy", 0, bench, 0);
        check.same("promise 35: the new copy", 63, () -> bench.copied(0));
        check.thrown("promise 35: not in the new copy", STATE, () -> bench.copied(1));
    }

    private static void copied() {
        PartcopyistBench bench = bench();
        check.thrown("promise 35: not copied", STATE, () -> bench.copied(0));
        bench.copyOut(0);
        bench.copyOut(1);
        check.same("promise 35: as it is written", 62, () -> bench.copied(0));
        check.same("promise 35: in the other part", 62, () -> bench.copied(3));
        bench.correct(0, 80);
        check.same("promise 35: the copy stays as it was", 62, () -> bench.copied(0));
        check.same("promise 15: the score does not", 82, () -> bench.written(0));
        bench.takeOut(1);
        check.same("promise 35: taken out, and in the copy", 64, () -> bench.copied(1));
        int added = bench.addNote(0, 1, 0, 0, 1, 24);
        check.thrown("promise 35: not yet in the copy", STATE, () -> bench.copied(added));
        bench.carry(1);
        check.same("promise 32: the other part alone", 62, () -> bench.copied(0));
        bench.carry(0);
        check.same("promise 35: corrected", 82, () -> bench.copied(0));
        check.thrown("promise 35: no longer in the copy", STATE, () -> bench.copied(1));
        check.same("promise 35: now in the copy", 26, () -> bench.copied(added));
        for (int note : new int[] {-1, 5, 120, Integer.MIN_VALUE, Integer.MAX_VALUE}) {
            check.thrown("promise 35: note " + note, NONE, () -> bench.copied(note));
        }
    }

    private static void wrongArguments() {
        PartcopyistBench bench = bench();
        check.thrown("promise 32: not copied", STATE, () -> bench.carry(0));
        check.thrown("promise 33: not copied", STATE, () -> bench.differences(0));
        check.thrown("promise 34: not copied", STATE, () -> bench.differencesByComparing(0));
        for (int part : new int[] {-1, 2, 5, Integer.MIN_VALUE, Integer.MAX_VALUE}) {
            check.thrown("promise 31: part " + part, INDEX, () -> bench.copyOut(part));
            check.thrown("promise 32: part " + part, INDEX, () -> bench.carry(part));
            check.thrown("promise 33: part " + part, INDEX, () -> bench.differences(part));
            check.thrown("promise 34: part " + part, INDEX, () -> bench.differencesByComparing(part));
        }
        check.thrown("promise 32: carrying does not copy", STATE, () -> bench.carry(0));
    }
}
