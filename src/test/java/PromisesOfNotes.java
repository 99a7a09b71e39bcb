/** Promises 6 to 14: a test for each sentence that names a boundary case. */
final class PromisesOfNotes {
    private PromisesOfNotes() {
    }

    @Sentence("Promise 6: Puts a note in.")
    static void putsANoteIn(Run run) {
        run.score(1, 1);
        run.due(0, "notesIn", 0, 0);
        run.does("addNote", 0, 0, 1, 3, 5, 61);
        run.due(1, "notesIn", 0, 0);
        run.due(61, "pitchOf", 0);
        run.due(5, "lengthOf", 0);
        run.due(5L, "ticks");
    }

    @Sentence("Promise 6: `part`: the number of the part")
    static void partOfANote(Run run) {
        run.noSuchPart("addNote", Run.HERE, 0, 0, 0, 1, 60);
        run.anew();
        run.score(5, 1);
        run.due(0, "addNote", 0, 0, 0, 0, 1, 60);
        run.due(1, "addNote", 4, 0, 0, 0, 1, 60);
        run.due(1, "notesIn", 0, 0);
        run.due(1, "notesIn", 4, 0);
        run.due(0, "notesIn", 3, 0);
    }

    @Sentence("Promise 6: `bar`: the number of the bar")
    static void barOfANote(Run run) {
        run.noSuchBar("addNote", 0, Run.HERE, 0, 0, 1, 60);
        run.anew();
        run.score(1, 14);
        run.due(0, "addNote", 0, 0, 0, 0, 1, 60);
        run.due(1, "addNote", 0, 13, 0, 0, 1, 60);
        run.rests("1+12", 0);
    }

    @Sentence("Promise 6: `voice`: the voice")
    static void voice(Run run) {
        run.score(1, 1);
        run.outside(0, 1, Run.ARGUMENT, "addNote", 0, 0, Run.HERE, 0, 1, 60);
        run.does("addNote", 0, 0, 1, 0, 1, 60);
        run.due(false, "isDivided", 0, 0);
        run.does("addNote", 0, 0, 0, 0, 1, 60);
        run.due(true, "isDivided", 0, 0);
    }

    @Sentence("Promise 6: `tick`: its first tick")
    static void firstTick(Run run) {
        run.score(1, 1);
        run.outside(0, 15, Run.ARGUMENT, "addNote", 0, 0, 0, Run.HERE, 1, 60);
        run.due(0, "addNote", 0, 0, 0, 15, 1, 60);
        run.due(1, "addNote", 0, 0, 0, 0, 1, 60);
        run.due(1, "noteAt", 0, 0, 0);
        run.due(0, "noteAt", 0, 0, 1);
    }

    @Sentence("Promise 6: `length`: its length, 1 or more")
    static void lengthOneOrMore(Run run) {
        run.score(1, 1);
        run.outside(1, 16, Run.ARGUMENT, "addNote", 0, 0, 0, 0, Run.HERE, 60);
        run.outside(1, 15, Run.ARGUMENT, "addNote", 0, 0, 0, 1, Run.HERE, 60);
        run.due(0, "addNote", 0, 0, 0, 0, 1, 60);
        run.due(1, "addNote", 0, 0, 1, 0, 16, 60);
        run.due(1, "lengthOf", 0);
        run.due(16, "lengthOf", 1);
    }

    @Sentence("Promise 6: `pitch`: its pitch")
    static void pitch(Run run) {
        run.score(1, 1);
        run.outside(24, 96, Run.ARGUMENT, "addNote", 0, 0, 0, 0, 1, Run.HERE);
        run.refused(Run.ARGUMENT, "addNote", 0, 0, 0, 0, 1, 0);
        run.due(0, "addNote", 0, 0, 0, 0, 1, 96);
        run.due(1, "addNote", 0, 0, 1, 0, 1, 24);
        run.due(96, "pitchOf", 0);
        run.due(24, "pitchOf", 1);
    }

    @Sentence("Promise 6: Returns the number of the note.")
    static void numberOfTheNote(Run run) {
        run.score(2, 1);
        run.due(0, "addNote", 1, 0, 0, 0, 1, 60);
        run.due(1, "addNote", 0, 0, 0, 0, 1, 60);
        run.does("takeOut", 1);
        run.due(2, "addNote", 0, 0, 0, 0, 1, 60);
        run.refused(Run.UNSUPPORTED, "addNote", 0, 0, 0, 0, 1, 60);
        run.due(3, "addNote", 1, 0, 0, 1, 1, 60);
    }

    @Sentence("Promise 6: Throws `IndexOutOfBoundsException` if there is no such part or no such bar")
    static void noSuchPartOrBarForANote(Run run) {
        run.noPartOrBar("addNote", 0, 0, 1, 60);
        run.due(0, "addNote", 0, 0, 0, 0, 1, 60);
    }

    @Sentence("Promise 6: Throws `IllegalArgumentException` if the voice or the pitch is out of range, or the note would"
            + " not be within its bar")
    static void argumentsOfANote(Run run) {
        run.small();
        argumentsRefused(run, 0, 0, 16);
        argumentsRefused(run, 2, 4, 16);
        run.full();
        argumentsRefused(run, 4, 13, 32);
    }

    private static void argumentsRefused(Run run, int part, int bar, int ticks) {
        run.outside(0, 1, Run.ARGUMENT, "addNote", part, bar, Run.HERE, 0, 1, 60);
        run.outside(24, 96, Run.ARGUMENT, "addNote", part, bar, 0, 0, 1, Run.HERE);
        run.outside(0, ticks - 1, Run.ARGUMENT, "addNote", part, bar, 0, Run.HERE, 1, 60);
        run.outside(1, ticks, Run.ARGUMENT, "addNote", part, bar, 0, 0, Run.HERE, 60);
        run.outside(1, 1, Run.ARGUMENT, "addNote", part, bar, 0, ticks - 1, Run.HERE, 60);
    }

    @Sentence("Promise 6: Throws `UnsupportedOperationException` if a note of this voice has a tick in common with it")
    static void tickInCommon(Run run) {
        run.score(1, 1);
        run.does("addNote", 0, 0, 1, 3, 1, 60);
        run.does("addNote", 0, 0, 1, 8, 4, 60);
        for (int[] note : new int[][] {{3, 1}, {0, 4}, {3, 5}, {0, 16}, {4, 5}, {11, 1}, {11, 5}, {8, 1}, {9, 2}}) {
            run.refused(Run.UNSUPPORTED, "addNote", 0, 0, 1, note[0], note[1], 60);
        }
        run.due(2, "addNote", 0, 0, 1, 0, 3, 60);
        run.due(3, "addNote", 0, 0, 1, 4, 4, 60);
        run.due(4, "addNote", 0, 0, 1, 12, 4, 60);
        run.due(5, "addNote", 0, 0, 0, 0, 16, 60);
    }

    @Sentence("Promise 6: Throws `IllegalStateException` if 120 notes have been put in")
    static void the121stNote(Run run) {
        run.score(1, 4);
        for (int i = 0; i < 119; i++) {
            run.notes(0, i / 32, i / 16 % 2, i % 16);
        }
        run.due(119, "addNote", 0, 3, 1, 7, 1, 60);
        run.refused(Run.STATE, "addNote", 0, 3, 1, 8, 1, 60);
        run.does("takeOut", 119);
        run.refused(Run.STATE, "addNote", 0, 3, 1, 7, 1, 60);
    }

    @Sentence("Promise 7: Corrects the pitch of a note.")
    static void correctsThePitch(Run run) {
        run.score(1, 1);
        run.notes(0, 0, 0, 0, 1);
        run.does("correct", 1, 96);
        run.due(60, "pitchOf", 0);
        run.due(96, "pitchOf", 1);
        run.due(1, "lengthOf", 1);
    }

    @Sentence("Promise 7: `note`: the number of the note")
    static void noteToCorrect(Run run) {
        run.full();
        run.due(24, "correct", 0, 25);
        run.due(41, "correct", 119, 42);
        run.due(25, "pitchOf", 0);
        run.due(42, "pitchOf", 119);
        run.outside(0, 119, Run.NONE, "correct", Run.HERE, 60);
    }

    @Sentence("Promise 7: `pitch`: the pitch")
    static void pitchToCorrect(Run run) {
        run.score(1, 1);
        run.notes(0, 0, 0, 0);
        run.outside(24, 96, Run.ARGUMENT, "correct", 0, Run.HERE);
        run.due(60, "correct", 0, 24);
        run.due(24, "pitchOf", 0);
        run.due(24, "correct", 0, 96);
        run.due(96, "pitchOf", 0);
    }

    @Sentence("Promise 7: Returns the pitch before.")
    static void pitchBefore(Run run) {
        run.score(0, 1);
        run.does("addPart", 12);
        run.does("addNote", 0, 0, 0, 0, 1, 96);
        run.due(96, "correct", 0, 24);
        run.due(24, "correct", 0, 24);
        run.due(24, "correct", 0, 96);
    }

    @Sentence("Promise 7: Throws `NoSuchElementException` if there is no such note, or it was taken out")
    static void noNoteToCorrect(Run run) {
        run.noSuchNote("correct", Run.HERE, 60);
        run.takenOut("correct", Run.HERE, 60);
    }

    @Sentence("Promise 7: Throws `IllegalArgumentException` if the pitch is out of range")
    static void pitchOutOfRange(Run run) {
        run.small();
        run.outside(24, 96, Run.ARGUMENT, "correct", 0, Run.HERE);
        run.outside(24, 96, Run.ARGUMENT, "correct", 5, Run.HERE);
        run.full();
        run.outside(24, 96, Run.ARGUMENT, "correct", 119, Run.HERE);
    }

    @Sentence("Promise 8: Corrects the length of a note.")
    static void correctsTheLength(Run run) {
        run.score(1, 1);
        run.notes(0, 0, 0, 0, 8);
        run.does("stretch", 1, 8);
        run.due(1, "lengthOf", 0);
        run.due(8, "lengthOf", 1);
        run.due(60, "pitchOf", 1);
        run.refused(Run.UNSUPPORTED, "addNote", 0, 0, 0, 15, 1, 60);
    }

    @Sentence("Promise 8: `note`: the number of the note")
    static void noteToStretch(Run run) {
        run.full();
        run.due(1, "stretch", 63, 1);
        run.due(1, "stretch", 119, 19);
        run.due(19, "lengthOf", 119);
        run.refused(Run.UNSUPPORTED, "stretch", 0, 2);
        run.outside(0, 119, Run.NONE, "stretch", Run.HERE, 1);
    }

    @Sentence("Promise 8: `length`: the length, 1 or more")
    static void lengthToStretch(Run run) {
        run.score(1, 1);
        run.notes(0, 0, 0, 5);
        run.outside(1, 11, Run.ARGUMENT, "stretch", 0, Run.HERE);
        run.due(1, "stretch", 0, 11);
        run.outside(1, 11, Run.ARGUMENT, "stretch", 0, Run.HERE);
        run.due(11, "stretch", 0, 1);
        run.due(1, "lengthOf", 0);
    }

    @Sentence("Promise 8: Returns the length before.")
    static void lengthBefore(Run run) {
        run.score(1, 0);
        run.does("addBar", 8, 0, false);
        run.does("addNote", 0, 0, 0, 0, 32, 60);
        run.due(32, "stretch", 0, 1);
        run.due(1, "stretch", 0, 1);
        run.due(1, "stretch", 0, 32);
    }

    @Sentence("Promise 8: Throws `NoSuchElementException` if there is no such note, or it was taken out")
    static void noNoteToStretch(Run run) {
        run.noSuchNote("stretch", Run.HERE, 1);
        run.takenOut("stretch", Run.HERE, 1);
    }

    @Sentence("Promise 8: Throws `IllegalArgumentException` if the note would not be within its bar")
    static void stretchedBeyondTheBar(Run run) {
        run.small();
        run.outside(1, 12, Run.ARGUMENT, "stretch", 0, Run.HERE);
        run.outside(1, 4, Run.ARGUMENT, "stretch", 1, Run.HERE);
        run.outside(1, 16, Run.ARGUMENT, "stretch", 5, Run.HERE);
        run.due(2, "stretch", 1, 4);
        run.full();
        run.outside(1, 1, Run.ARGUMENT, "stretch", 31, Run.HERE);
        run.outside(1, 32, Run.ARGUMENT, "stretch", 0, Run.HERE);
    }

    @Sentence("Promise 8: Throws `UnsupportedOperationException` if a note of its voice would have a tick in common with it")
    static void stretchedIntoAnother(Run run) {
        run.score(2, 2);
        run.notes(0, 0, 0, 4, 8, 15);
        run.notes(0, 0, 1, 5);
        run.notes(1, 0, 0, 5);
        run.notes(0, 1, 0, 5);
        run.refused(Run.UNSUPPORTED, "stretch", 0, 5);
        run.refused(Run.UNSUPPORTED, "stretch", 0, 12);
        run.due(1, "stretch", 0, 4);
        run.refused(Run.UNSUPPORTED, "stretch", 1, 8);
        run.due(1, "stretch", 1, 7);
        run.does("takeOut", 2);
        run.due(7, "stretch", 1, 8);
        run.due(1, "stretch", 3, 11);
    }

    @Sentence("Promise 9: Takes a note out.")
    static void takesANoteOut(Run run) {
        run.score(1, 1);
        run.notes(0, 0, 0, 0, 1);
        run.does("takeOut", 0);
        run.refused(Run.NONE, "pitchOf", 0);
        run.due(60, "pitchOf", 1);
        run.due(1, "notesIn", 0, 0);
        run.due(1, "noteAt", 0, 0, 0);
    }

    @Sentence("Promise 9: `note`: the number of the note")
    static void noteToTakeOut(Run run) {
        run.full();
        run.outside(0, 119, Run.NONE, "takeOut", Run.HERE);
        run.due(13, "takeOut", 119);
        run.due(63, "takeOut", 0);
        run.due(62, "takeOut", 63);
        run.due(13, "takeOut", 64);
    }

    @Sentence("Promise 9: Returns the number of notes of its part that are left.")
    static void notesThatAreLeft(Run run) {
        run.score(2, 2);
        run.notes(0, 0, 0, 0);
        run.notes(0, 1, 1, 0);
        run.notes(1, 0, 0, 0);
        run.due(1, "takeOut", 0);
        run.due(0, "takeOut", 1);
        run.due(0, "takeOut", 2);
    }

    @Sentence("Promise 9: Throws `NoSuchElementException` if there is no such note, or it was taken out")
    static void noNoteToTakeOut(Run run) {
        run.noSuchNote("takeOut", Run.HERE);
        run.takenOut("takeOut", Run.HERE);
    }

    @Sentence("Promise 10: Returns the number of notes of a part in a bar.")
    static void noNotesUpToAFullBar(Run run) {
        run.full();
        run.due(64, "notesIn", 0, 0);
        run.due(0, "notesIn", 0, 1);
        run.due(0, "notesIn", 1, 0);
        run.due(2, "notesIn", 1, 1);
        run.due(1, "notesIn", 4, 13);
    }

    @Sentence("Promise 10: `part`: the number of the part")
    static void partToCount(Run run) {
        run.noSuchPart("notesIn", Run.HERE, 0);
        run.due(64, "notesIn", 0, 0);
        run.due(0, "notesIn", 4, 0);
    }

    @Sentence("Promise 10: `bar`: the number of the bar")
    static void barToCount(Run run) {
        run.noSuchBar("notesIn", 0, Run.HERE);
        run.due(64, "notesIn", 0, 0);
        run.due(0, "notesIn", 0, 13);
    }

    @Sentence("Promise 10: Returns the number of notes.")
    static void countOfNotes(Run run) {
        run.score(1, 1);
        run.due(0, "notesIn", 0, 0);
        run.notes(0, 0, 0, 0);
        run.due(1, "notesIn", 0, 0);
        run.notes(0, 0, 1, 0);
        run.due(2, "notesIn", 0, 0);
        run.does("takeOut", 0);
        run.does("takeOut", 1);
        run.due(0, "notesIn", 0, 0);
    }

    @Sentence("Promise 10: Throws `IndexOutOfBoundsException` if there is no such part or no such bar")
    static void noPartOrBarToCount(Run run) {
        run.noPartOrBar("notesIn");
        run.due(0, "notesIn", 0, 0);
    }

    @Sentence("Promise 11: Returns a note of a part in a bar.")
    static void firstAndLastNoteOfABar(Run run) {
        run.full();
        run.due(0, "noteAt", 0, 0, 0);
        run.due(63, "noteAt", 0, 0, 63);
        run.due(64, "noteAt", 1, 1, 0);
        run.due(116, "noteAt", 1, 1, 1);
        run.due(103, "noteAt", 4, 1, 0);
    }

    @Sentence("Promise 11: `part`: the number of the part")
    static void partOfAnIndex(Run run) {
        run.noSuchPart("noteAt", Run.HERE, 0, 0);
        run.due(0, "noteAt", 0, 0, 0);
        run.refused(Run.NONE, "noteAt", 4, 0, 0);
    }

    @Sentence("Promise 11: `bar`: the number of the bar")
    static void barOfAnIndex(Run run) {
        run.noSuchBar("noteAt", 0, Run.HERE, 0);
        run.due(0, "noteAt", 0, 0, 0);
        run.refused(Run.NONE, "noteAt", 0, 13, 0);
    }

    @Sentence("Promise 11: `index`: the index in the order of the notes, from 0")
    static void indexFrom0(Run run) {
        run.score(1, 1);
        run.outside(0, -1, Run.NONE, "noteAt", 0, 0, Run.HERE);
        run.notes(0, 0, 0, 1);
        run.due(0, "noteAt", 0, 0, 0);
        run.outside(0, 0, Run.NONE, "noteAt", 0, 0, Run.HERE);
        run.notes(0, 0, 1, 0);
        run.due(1, "noteAt", 0, 0, 0);
        run.due(0, "noteAt", 0, 0, 1);
        run.outside(0, 1, Run.NONE, "noteAt", 0, 0, Run.HERE);
    }

    @Sentence("Promise 11: Returns the number of the note.")
    static void numberOfTheNoteAt(Run run) {
        run.score(2, 1);
        run.notes(1, 0, 0, 0);
        run.notes(0, 0, 0, 5, 4, 3, 2);
        int[] order = {4, 3, 2, 1};
        for (int index = 0; index < 4; index++) {
            run.due(order[index], "noteAt", 0, 0, index);
        }
        run.does("takeOut", 3);
        run.due(2, "noteAt", 0, 0, 1);
        run.refused(Run.NONE, "noteAt", 0, 0, 3);
    }

    @Sentence("Promise 11: Throws `IndexOutOfBoundsException` if there is no such part or no such bar")
    static void noPartOrBarOfAnIndex(Run run) {
        run.noPartOrBar("noteAt", 0);
        run.refused(Run.NONE, "noteAt", 0, 0, 0);
    }

    @Sentence("Promise 11: Throws `NoSuchElementException` if there is no such index")
    static void noSuchIndex(Run run) {
        run.small();
        run.outside(0, 1, Run.NONE, "noteAt", 0, 0, Run.HERE);
        run.outside(0, -1, Run.NONE, "noteAt", 2, 4, Run.HERE);
        run.full();
        run.outside(0, 63, Run.NONE, "noteAt", 0, 0, Run.HERE);
        run.outside(0, -1, Run.NONE, "noteAt", 0, 13, Run.HERE);
    }

    @Sentence("Promise 12: Returns the pitch of a note.")
    static void pitchAsItSounds(Run run) {
        run.score(0, 1);
        run.does("addPart", 12);
        run.does("addNote", 0, 0, 0, 0, 1, 96);
        run.due(96, "pitchOf", 0);
    }

    @Sentence("Promise 12: `note`: the number of the note")
    static void noteOfAPitch(Run run) {
        run.full();
        run.due(24, "pitchOf", 0);
        run.due(41, "pitchOf", 119);
        run.outside(0, 119, Run.NONE, "pitchOf", Run.HERE);
    }

    @Sentence("Promise 12: Returns the pitch.")
    static void lowestAndHighestPitch(Run run) {
        run.score(1, 1);
        run.does("addNote", 0, 0, 0, 0, 1, 24);
        run.does("addNote", 0, 0, 0, 1, 1, 96);
        run.due(24, "pitchOf", 0);
        run.due(96, "pitchOf", 1);
        run.does("correct", 0, 96);
        run.due(96, "pitchOf", 0);
    }

    @Sentence("Promise 12: Throws `NoSuchElementException` if there is no such note, or it was taken out")
    static void noNoteOfAPitch(Run run) {
        run.noSuchNote("pitchOf", Run.HERE);
        run.takenOut("pitchOf", Run.HERE);
    }

    @Sentence("Promise 13: `note`: the number of the note")
    static void noteOfALength(Run run) {
        run.full();
        run.due(1, "lengthOf", 0);
        run.does("stretch", 119, 2);
        run.due(2, "lengthOf", 119);
        run.outside(0, 119, Run.NONE, "lengthOf", Run.HERE);
    }

    @Sentence("Promise 13: Returns the length of a note.")
    static void lengthInTicks(Run run) {
        run.score(1, 1);
        run.does("addNote", 0, 0, 0, 7, 9, 60);
        run.due(9, "lengthOf", 0);
    }

    @Sentence("Promise 13: Returns the length.")
    static void leastAndMostLength(Run run) {
        run.score(1, 0);
        run.does("addBar", 8, 0, false);
        run.does("addNote", 0, 0, 0, 0, 32, 60);
        run.does("addNote", 0, 0, 1, 31, 1, 60);
        run.due(32, "lengthOf", 0);
        run.due(1, "lengthOf", 1);
    }

    @Sentence("Promise 13: Throws `NoSuchElementException` if there is no such note, or it was taken out")
    static void noNoteOfALength(Run run) {
        run.noSuchNote("lengthOf", Run.HERE);
        run.takenOut("lengthOf", Run.HERE);
    }

    @Sentence("Promise 14: Returns whether a part is divided in a bar.")
    static void dividedInThisBarAlone(Run run) {
        run.score(2, 2);
        run.notes(0, 0, 0, 0);
        run.notes(0, 1, 1, 0);
        run.notes(1, 0, 1, 0);
        run.due(false, "isDivided", 0, 0);
        run.due(false, "isDivided", 0, 1);
        run.due(false, "isDivided", 1, 0);
        run.notes(0, 0, 1, 15);
        run.due(true, "isDivided", 0, 0);
        run.due(false, "isDivided", 0, 1);
        run.due(false, "isDivided", 1, 0);
    }

    @Sentence("Promise 14: `part`: the number of the part")
    static void partThatIsDivided(Run run) {
        run.noSuchPart("isDivided", Run.HERE, 0);
        run.due(true, "isDivided", 0, 0);
        run.due(false, "isDivided", 4, 0);
    }

    @Sentence("Promise 14: `bar`: the number of the bar")
    static void barThatIsDivided(Run run) {
        run.noSuchBar("isDivided", 0, Run.HERE);
        run.due(true, "isDivided", 0, 0);
        run.due(false, "isDivided", 0, 13);
    }

    @Sentence("Promise 14: Returns whether both voices have notes.")
    static void bothVoices(Run run) {
        run.score(1, 1);
        run.due(false, "isDivided", 0, 0);
        run.notes(0, 0, 0, 0);
        run.due(false, "isDivided", 0, 0);
        run.notes(0, 0, 1, 0);
        run.due(true, "isDivided", 0, 0);
        run.does("takeOut", 0);
        run.due(false, "isDivided", 0, 0);
        run.does("takeOut", 1);
        run.due(false, "isDivided", 0, 0);
    }

    @Sentence("Promise 14: Throws `IndexOutOfBoundsException` if there is no such part or no such bar")
    static void noPartOrBarThatIsDivided(Run run) {
        run.noPartOrBar("isDivided");
        run.due(false, "isDivided", 0, 0);
    }
}
