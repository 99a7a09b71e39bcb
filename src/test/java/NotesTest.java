import java.util.NoSuchElementException;

/** Promises 6 to 14: addNote, correct, stretch, takeOut, notesIn, noteAt, pitchOf, lengthOf, isDivided. */
public final class NotesTest {
    private static final int LEAST = Integer.MIN_VALUE;
    private static final int MOST = Integer.MAX_VALUE;
    private static final Class<IllegalArgumentException> ARGUMENT = IllegalArgumentException.class;
    private static final Class<IllegalStateException> STATE = IllegalStateException.class;
    private static final Class<IndexOutOfBoundsException> INDEX = IndexOutOfBoundsException.class;
    private static final Class<UnsupportedOperationException> TAKEN = UnsupportedOperationException.class;
    private static final Class<NoSuchElementException> NONE = NoSuchElementException.class;

    private static final Check check = new Check("NotesTest");

    public static void main(String[] args) {
        addNoteWrongly();
        addNoteBesideOthers();
        addMostNotes();
        correct();
        stretch();
        takeOut();
        orderOfNotes();
        pitchAndLength();
        isDivided();
        check.end();
    }

    /** Two parts and two bars of 16 ticks. */
    private static PartcopyistBench bench() {
        PartcopyistBench bench = new PartcopyistBench();
        bench.addPart(0);
        bench.addPart(2);
        bench.addBar(4, 0, false);
        bench.addBar(4, 0, false);
        return bench;
    }

    private static void addNoteWrongly() {
        PartcopyistBench bench = bench();
        check.thrown("promise 6: part -1", INDEX, () -> bench.addNote(-1, 0, 0, 0, 1, 60));
        check.thrown("promise 6: part 2", INDEX, () -> bench.addNote(2, 0, 0, 0, 1, 60));
        check.thrown("promise 6: bar -1", INDEX, () -> bench.addNote(0, -1, 0, 0, 1, 60));
        check.thrown("promise 6: bar 2", INDEX, () -> bench.addNote(0, 2, 0, 0, 1, 60));
        check.thrown("promise 6: voice -1", ARGUMENT, () -> bench.addNote(0, 0, -1, 0, 1, 60));
        check.thrown("promise 6: voice 2", ARGUMENT, () -> bench.addNote(0, 0, 2, 0, 1, 60));
        check.thrown("promise 6: pitch 23", ARGUMENT, () -> bench.addNote(0, 0, 0, 0, 1, 23));
        check.thrown("promise 6: pitch 97", ARGUMENT, () -> bench.addNote(0, 0, 0, 0, 1, 97));
        check.thrown("promise 6: tick -1", ARGUMENT, () -> bench.addNote(0, 0, 0, -1, 1, 60));
        check.thrown("promise 6: tick 16", ARGUMENT, () -> bench.addNote(0, 0, 0, 16, 1, 60));
        check.thrown("promise 6: length 0", ARGUMENT, () -> bench.addNote(0, 0, 0, 0, 0, 60));
        check.thrown("promise 6: length -1", ARGUMENT, () -> bench.addNote(0, 0, 0, 4, -1, 60));
        check.thrown("promise 6: over the end", ARGUMENT, () -> bench.addNote(0, 0, 0, 13, 4, 60));
        check.thrown("promise 6: ticks that wrap", ARGUMENT, () -> bench.addNote(0, 0, 0, 1, MOST, 60));
        check.thrown("promise 6: a tick that wraps", ARGUMENT, () -> bench.addNote(0, 0, 0, MOST, 1, 60));
        check.thrown("promise 6: both", ARGUMENT, () -> bench.addNote(0, 0, 0, MOST, MOST, 60));
        check.thrown("promise 6: least tick", ARGUMENT, () -> bench.addNote(0, 0, 0, LEAST, MOST, 60));
        check.thrown("promise 6: least length", ARGUMENT, () -> bench.addNote(0, 0, 0, 1, LEAST, 60));
        check.thrown("promise 6: part before voice", INDEX, () -> bench.addNote(2, 0, 2, 0, 1, 60));
        check.thrown("promise 6: bar before pitch", INDEX, () -> bench.addNote(0, 2, 0, 0, 1, 97));
        check.same("promise 6: nothing was put in", 0, bench::ticks);
        check.same("promise 6: the first note", 0, () -> bench.addNote(0, 0, 0, 12, 4, 24));
        check.same("promise 6: the second", 1, () -> bench.addNote(0, 0, 1, 0, 16, 96));
    }

    private static void addNoteBesideOthers() {
        PartcopyistBench bench = bench();
        bench.addNote(0, 0, 0, 4, 4, 60);
        check.thrown("promise 6: over its start", TAKEN, () -> bench.addNote(0, 0, 0, 3, 2, 60));
        check.thrown("promise 6: over its end", TAKEN, () -> bench.addNote(0, 0, 0, 7, 2, 60));
        check.thrown("promise 6: within it", TAKEN, () -> bench.addNote(0, 0, 0, 5, 1, 60));
        check.thrown("promise 6: round it", TAKEN, () -> bench.addNote(0, 0, 0, 0, 16, 60));
        check.thrown("promise 6: the same", TAKEN, () -> bench.addNote(0, 0, 0, 4, 4, 60));
        check.thrown("promise 6: pitch before ticks", ARGUMENT, () -> bench.addNote(0, 0, 0, 4, 4, 97));
        check.same("promise 6: ahead of it", 1, () -> bench.addNote(0, 0, 0, 0, 4, 60));
        check.same("promise 6: behind it", 2, () -> bench.addNote(0, 0, 0, 8, 1, 60));
        check.same("promise 6: the other voice", 3, () -> bench.addNote(0, 0, 1, 4, 4, 60));
        check.same("promise 6: the other bar", 4, () -> bench.addNote(0, 1, 0, 4, 4, 60));
        check.same("promise 6: the other part", 5, () -> bench.addNote(1, 0, 0, 4, 4, 60));
        bench.takeOut(0);
        check.same("promise 6: where one was taken out", 6, () -> bench.addNote(0, 0, 0, 5, 2, 60));
    }

    private static void addMostNotes() {
        PartcopyistBench bench = bench();
        for (int i = 0; i < 120; i++) {
            int number = i;
            check.same("promise 6: one more", number, () -> bench.addNote(1, 1, 1, 3, 1, 60));
            if (number < 119) {
                bench.takeOut(number);
            }
        }
        check.thrown("promise 6: the 121st", STATE, () -> bench.addNote(0, 0, 0, 0, 1, 60));
        check.thrown("promise 6: ticks before number", TAKEN, () -> bench.addNote(1, 1, 1, 0, 8, 60));
        check.thrown("promise 6: pitch before number", ARGUMENT, () -> bench.addNote(1, 1, 1, 0, 8, 97));
        check.thrown("promise 6: part before number", INDEX, () -> bench.addNote(5, 1, 1, 0, 8, 97));
        bench.takeOut(119);
        check.thrown("promise 6: taking out makes no room", STATE, () -> bench.addNote(0, 0, 0, 0, 1, 60));
        check.thrown("promise 12: note 120", NONE, () -> bench.pitchOf(120));
    }

    private static void correct() {
        PartcopyistBench bench = bench();
        bench.addNote(0, 0, 0, 0, 4, 60);
        check.same("promise 7: the pitch before", 60, () -> bench.correct(0, 24));
        check.same("promise 7: the least", 24, () -> bench.correct(0, 96));
        check.same("promise 7: the most", 96, () -> bench.pitchOf(0));
        check.thrown("promise 7: pitch 23", ARGUMENT, () -> bench.correct(0, 23));
        check.thrown("promise 7: pitch 97", ARGUMENT, () -> bench.correct(0, 97));
        check.thrown("promise 7: note -1", NONE, () -> bench.correct(-1, 60));
        check.thrown("promise 7: note 1", NONE, () -> bench.correct(1, 60));
        check.thrown("promise 7: the note is looked at first", NONE, () -> bench.correct(1, 97));
        check.same("promise 7: nothing was changed", 96, () -> bench.pitchOf(0));
        bench.takeOut(0);
        check.thrown("promise 7: taken out", NONE, () -> bench.correct(0, 60));
    }

    private static void stretch() {
        PartcopyistBench bench = bench();
        bench.addNote(0, 0, 0, 4, 4, 60);
        bench.addNote(0, 0, 0, 10, 2, 62);
        bench.addNote(0, 0, 1, 4, 4, 64);
        check.same("promise 8: up to the next", 4, () -> bench.stretch(0, 6));
        check.thrown("promise 8: into the next", TAKEN, () -> bench.stretch(0, 7));
        check.thrown("promise 8: over the next", TAKEN, () -> bench.stretch(0, 12));
        check.thrown("promise 8: over the bar", ARGUMENT, () -> bench.stretch(0, 13));
        check.thrown("promise 8: length 0", ARGUMENT, () -> bench.stretch(0, 0));
        check.thrown("promise 8: length -1", ARGUMENT, () -> bench.stretch(0, -1));
        check.thrown("promise 8: a length that wraps", ARGUMENT, () -> bench.stretch(0, MOST));
        check.thrown("promise 8: least length", ARGUMENT, () -> bench.stretch(0, LEAST));
        check.same("promise 8: nothing was changed", 6, () -> bench.lengthOf(0));
        check.same("promise 8: shorter", 6, () -> bench.stretch(0, 1));
        check.same("promise 8: to the end of the bar", 2, () -> bench.stretch(1, 6));
        check.same("promise 8: the other voice is free", 4, () -> bench.stretch(2, 12));
        bench.takeOut(1);
        check.same("promise 8: over one taken out", 1, () -> bench.stretch(0, 12));
        check.thrown("promise 8: taken out", NONE, () -> bench.stretch(1, 1));
        check.thrown("promise 8: note -1", NONE, () -> bench.stretch(-1, 1));
        check.thrown("promise 8: the note is looked at first", NONE, () -> bench.stretch(3, 0));
    }

    private static void takeOut() {
        PartcopyistBench bench = bench();
        bench.addNote(0, 0, 0, 0, 4, 60);
        bench.addNote(0, 1, 0, 0, 4, 60);
        bench.addNote(1, 0, 0, 0, 4, 60);
        check.same("promise 9: one is left", 1, () -> bench.takeOut(0));
        check.thrown("promise 9: taken out", NONE, () -> bench.takeOut(0));
        check.same("promise 9: none is left", 0, () -> bench.takeOut(1));
        check.thrown("promise 9: note -1", NONE, () -> bench.takeOut(-1));
        check.thrown("promise 9: note 3", NONE, () -> bench.takeOut(3));
        check.same("promise 9: the other part has its own", 0, () -> bench.takeOut(2));
        check.same("promise 9: no ticks", 0, bench::ticks);
    }

    private static void orderOfNotes() {
        PartcopyistBench bench = bench();
        bench.addNote(0, 0, 1, 8, 2, 60);
        bench.addNote(0, 0, 0, 8, 2, 61);
        bench.addNote(0, 0, 1, 2, 2, 62);
        bench.addNote(0, 0, 0, 12, 2, 63);
        bench.addNote(0, 1, 0, 0, 2, 64);
        bench.addNote(1, 0, 0, 0, 2, 65);
        check.same("promise 10: those of the bar", 4, () -> bench.notesIn(0, 0));
        check.same("promise 10: the other bar", 1, () -> bench.notesIn(0, 1));
        check.same("promise 10: the other part", 1, () -> bench.notesIn(1, 0));
        check.same("promise 10: none", 0, () -> bench.notesIn(1, 1));
        check.thrown("promise 10: part 2", INDEX, () -> bench.notesIn(2, 0));
        check.thrown("promise 10: part -1", INDEX, () -> bench.notesIn(-1, 0));
        check.thrown("promise 10: bar 2", INDEX, () -> bench.notesIn(0, 2));
        check.thrown("promise 10: bar -1", INDEX, () -> bench.notesIn(0, -1));
        check.same("promise 11: the first by tick", 2, () -> bench.noteAt(0, 0, 0));
        check.same("promise 11: then by voice", 1, () -> bench.noteAt(0, 0, 1));
        check.same("promise 11: the other voice", 0, () -> bench.noteAt(0, 0, 2));
        check.same("promise 11: the last", 3, () -> bench.noteAt(0, 0, 3));
        check.thrown("promise 11: index 4", NONE, () -> bench.noteAt(0, 0, 4));
        check.thrown("promise 11: index -1", NONE, () -> bench.noteAt(0, 0, -1));
        check.thrown("promise 11: most", NONE, () -> bench.noteAt(0, 0, MOST));
        check.thrown("promise 11: empty", NONE, () -> bench.noteAt(1, 1, 0));
        check.thrown("promise 11: part 2", INDEX, () -> bench.noteAt(2, 0, 0));
        check.thrown("promise 11: bar 2 before index", INDEX, () -> bench.noteAt(0, 2, -1));
        bench.takeOut(1);
        check.same("promise 10: one less", 3, () -> bench.notesIn(0, 0));
        check.same("promise 11: the next moves up", 0, () -> bench.noteAt(0, 0, 1));
    }

    private static void pitchAndLength() {
        PartcopyistBench bench = bench();
        bench.addNote(1, 0, 0, 0, 16, 24);
        bench.addNote(1, 1, 0, 15, 1, 96);
        check.same("promise 12: how it sounds", 24, () -> bench.pitchOf(0));
        check.same("promise 12: the other", 96, () -> bench.pitchOf(1));
        check.same("promise 13: the length", 16, () -> bench.lengthOf(0));
        check.same("promise 13: the other", 1, () -> bench.lengthOf(1));
        bench.takeOut(0);
        for (int note : new int[] {-1, 0, 2, 120, LEAST, MOST}) {
            check.thrown("promise 12: note " + note, NONE, () -> bench.pitchOf(note));
            check.thrown("promise 13: note " + note, NONE, () -> bench.lengthOf(note));
        }
    }

    private static void isDivided() {
        PartcopyistBench bench = bench();
        check.same("promise 14: empty", false, () -> bench.isDivided(0, 0));
        bench.addNote(0, 0, 1, 0, 4, 60);
        check.same("promise 14: voice 1", false, () -> bench.isDivided(0, 0));
        bench.addNote(0, 1, 0, 0, 4, 60);
        bench.addNote(1, 0, 0, 0, 4, 60);
        check.same("promise 14: voice 0 elsewhere", false, () -> bench.isDivided(0, 0));
        bench.addNote(0, 0, 0, 8, 4, 60);
        check.same("promise 14: both", true, () -> bench.isDivided(0, 0));
        check.same("promise 14: voice 0", false, () -> bench.isDivided(0, 1));
        bench.takeOut(0);
        check.same("promise 14: one taken out", false, () -> bench.isDivided(0, 0));
        check.thrown("promise 14: part 2", INDEX, () -> bench.isDivided(2, 0));
        check.thrown("promise 14: part -1", INDEX, () -> bench.isDivided(-1, 0));
        check.thrown("promise 14: bar 2", INDEX, () -> bench.isDivided(0, 2));
        check.thrown("promise 14: bar -1", INDEX, () -> bench.isDivided(0, -1));
    }
}
