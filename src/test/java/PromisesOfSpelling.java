/** Promises 15 to 18: a test for each sentence that names a boundary case. */
final class PromisesOfSpelling {
    private PromisesOfSpelling() {
    }

    @Sentence("Promise 15: Returns the written pitch of a note.")
    static void writtenForItsPart(Run run) {
        run.full();
        run.due(24, "written", 0);
        run.due(96 - 12, "written", 64);
        run.due(95 + 12, "written", 65);
        run.due(94 + 7, "written", 66);
        run.due(93 - 5, "written", 67);
    }

    @Sentence("Promise 15: `note`: the number of the note")
    static void noteThatIsWritten(Run run) {
        run.full();
        run.due(24, "written", 0);
        run.due(36, "written", 119);
        run.outside(0, 119, Run.NONE, "written", Run.HERE);
    }

    @Sentence("Promise 15: Returns the written pitch.")
    static void lowestAndHighestWrittenPitch(Run run) {
        run.score(0, 1);
        run.does("addPart", 12);
        run.does("addPart", -12);
        run.does("addNote", 0, 0, 0, 0, 1, 96);
        run.does("addNote", 1, 0, 0, 0, 1, 24);
        run.due(108, "written", 0);
        run.due(12, "written", 1);
        run.does("correct", 0, 24);
        run.does("correct", 1, 96);
        run.due(36, "written", 0);
        run.due(84, "written", 1);
    }

    @Sentence("Promise 15: Throws `NoSuchElementException` if there is no such note, or it was taken out")
    static void noNoteThatIsWritten(Run run) {
        run.noSuchNote("written", Run.HERE);
        run.takenOut("written", Run.HERE);
    }

    @Sentence("Promise 16: Returns the written key of a part in a bar.")
    static void keyOfThisPartInThisBar(Run run) {
        run.full();
        run.due(6, "writtenKey", 0, 0);
        run.due(6, "writtenKey", 1, 0);
        run.due(5, "writtenKey", 0, 11);
        run.due(-5, "writtenKey", 3, 0);
        run.due(1, "writtenKey", 4, 6);
    }

    @Sentence("Promise 16: `part`: the number of the part")
    static void partOfAKey(Run run) {
        run.noSuchPart("writtenKey", Run.HERE, 0);
        run.due(-5, "writtenKey", 0, 13);
        run.due(-4, "writtenKey", 4, 13);
    }

    @Sentence("Promise 16: `bar`: the number of the bar")
    static void barOfAKey(Run run) {
        run.noSuchBar("writtenKey", 0, Run.HERE);
        run.due(6, "writtenKey", 0, 0);
        run.due(-5, "writtenKey", 0, 13);
    }

    @Sentence("Promise 16: Returns the written key.")
    static void fromMinus5To6(Run run) {
        run.score(1, 2);
        run.does("setKey", 0, -5);
        run.does("setKey", 1, -6);
        run.due(-5, "writtenKey", 0, 0);
        run.due(6, "writtenKey", 0, 1);
        run.does("addPart", 1);
        run.does("setKey", 0, -1);
        run.does("setKey", 1, 0);
        run.due(6, "writtenKey", 1, 0);
        run.due(-5, "writtenKey", 1, 1);
    }

    @Sentence("Promise 16: Throws `IndexOutOfBoundsException` if there is no such part or no such bar")
    static void noPartOrBarOfAKey(Run run) {
        run.noPartOrBar("writtenKey");
        run.due(0, "writtenKey", 0, 0);
    }

    /** One note of a part with this shift, in a bar with this key. */
    private static void oneNote(Run run, int shift, int key, int pitch) {
        run.anew();
        run.does("addPart", shift);
        run.does("addBar", 1, key, false);
        run.does("addNote", 0, 0, 0, 0, 1, pitch);
    }

    @Sentence("Promise 17: Returns the letter by which a note is spelled.")
    static void letterInTheWrittenKey(Run run) {
        oneNote(run, 1, 0, 59);
        run.due('C', "letterOf", 0);
        oneNote(run, 1, -1, 59);
        run.due('B', "letterOf", 0);
        oneNote(run, 0, -6, 60);
        run.due('B', "letterOf", 0);
        run.does("setKey", 0, -5);
        run.due('C', "letterOf", 0);
    }

    @Sentence("Promise 17: `note`: the number of the note")
    static void noteOfALetter(Run run) {
        run.full();
        run.due('B', "letterOf", 0);
        run.due('C', "letterOf", 119);
        run.outside(0, 119, Run.NONE, "letterOf", Run.HERE);
    }

    @Sentence("Promise 17: Returns the letter, 'A' to 'G'.")
    static void lettersFromAToG(Run run) {
        run.score(1, 1);
        run.notes(0, 0, 0, 0);
        String letters = "CCDEEFFGAABB";
        for (int pitch = 24; pitch <= 96; pitch++) {
            run.does("correct", 0, pitch);
            run.due(letters.charAt(pitch % 12), "letterOf", 0);
        }
        letters = "CDDEFFGGABBC";
        run.does("setKey", 0, -5);
        for (int pitch = 24; pitch <= 96; pitch++) {
            run.does("correct", 0, pitch);
            run.due(letters.charAt(pitch % 12), "letterOf", 0);
        }
    }

    @Sentence("Promise 17: Throws `NoSuchElementException` if there is no such note, or it was taken out")
    static void noNoteOfALetter(Run run) {
        run.noSuchNote("letterOf", Run.HERE);
        run.takenOut("letterOf", Run.HERE);
    }

    @Sentence("Promise 18: Returns the accidental by which a note is spelled.")
    static void accidentalInTheWrittenKey(Run run) {
        oneNote(run, 1, 0, 59);
        run.due(0, "accidentalOf", 0);
        oneNote(run, 1, -1, 59);
        run.due(1, "accidentalOf", 0);
        oneNote(run, 12, -6, 55);
        run.due(2, "accidentalOf", 0);
        oneNote(run, -12, -5, 93);
        run.due(-2, "accidentalOf", 0);
    }

    @Sentence("Promise 18: `note`: the number of the note")
    static void noteOfAnAccidental(Run run) {
        run.full();
        run.due(1, "accidentalOf", 0);
        run.due(0, "accidentalOf", 119);
        run.outside(0, 119, Run.NONE, "accidentalOf", Run.HERE);
    }

    @Sentence("Promise 18: Returns the number of sharps, less than 0 for flats.")
    static void sharpsFromMinus2To2(Run run) {
        oneNote(run, 0, -5, 60);
        int[] inKeyMinus5 = {0, -1, 0, -1, -1, 0, -1, 0, -1, -2, -1, -1};
        int[] inKey6 = {1, 1, 0, 1, 0, 1, 1, 2, 1, 0, 1, 0};
        for (int i = 0; i < 12; i++) {
            run.does("correct", 0, 60 + i);
            run.does("setKey", 0, -5);
            run.due(inKeyMinus5[i], "accidentalOf", 0);
            run.does("setKey", 0, 6);
            run.due(inKey6[i], "accidentalOf", 0);
        }
    }

    @Sentence("Promise 18: Throws `NoSuchElementException` if there is no such note, or it was taken out")
    static void noNoteOfAnAccidental(Run run) {
        run.noSuchNote("accidentalOf", Run.HERE);
        run.takenOut("accidentalOf", Run.HERE);
    }
}
