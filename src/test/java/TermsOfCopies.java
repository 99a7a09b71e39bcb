/** 'Terms' of copies and exceptions: one test or more for each sentence that names a boundary case. */
final class TermsOfCopies {
    private TermsOfCopies() {
    }

    private static final String A_COPY = "Terms: A part can be copied: the copy has all notes of the part with their"
            + " pitches and lengths as they are then.";

    @Sentence(A_COPY)
    static void theCopyOfAnEmptyPart(Run run) {
        run.does("addPart", 0);
        run.refused(Run.STATE, "differences", 0);
        run.due(0, "copyOut", 0);
        run.differences(0, 0);
        run.due(0, "carry", 0);
        run.score(1, 1);
        run.notes(1, 0, 0, 0);
        run.due(0, "copyOut", 0);
        run.refused(Run.STATE, "copied", 0);
    }

    @Sentence(A_COPY)
    static void theCopyOfAllNotes(Run run) {
        run.score(1, 4);
        for (int i = 0; i < 120; i++) {
            run.does("addNote", 0, i / 32, i / 16 % 2, i % 16, 1, 24 + i % 73);
        }
        run.due(120, "copyOut", 0);
        run.due(24, "copied", 0);
        run.due(96, "copied", 72);
        run.due(24 + 119 % 73, "copied", 119);
        for (int note = 0; note < 120; note++) {
            run.due(119 - note, "takeOut", note);
        }
        run.differences(120, 0);
        run.due(24 + 119 % 73, "copied", 119);
        run.due(120, "carry", 0);
        run.refused(Run.STATE, "copied", 119);
        run.due(0, "copyOut", 0);
    }

    @Sentence(A_COPY)
    static void lowestAndHighestInACopy(Run run) {
        run.score(0, 1);
        run.does("addPart", -12);
        run.does("addPart", 12);
        run.does("addNote", 0, 0, 0, 0, 1, 24);
        run.does("addNote", 1, 0, 0, 0, 1, 96);
        run.due(1, "copyOut", 0);
        run.due(1, "copyOut", 1);
        run.due(12, "copied", 0);
        run.due(108, "copied", 1);
    }

    @Sentence(A_COPY)
    static void pitchesAndLengthsAsTheyAreThen(Run run) {
        run.score(1, 1);
        run.does("addNote", 0, 0, 0, 0, 16, 60);
        run.does("stretch", 0, 1);
        run.does("correct", 0, 24);
        run.due(1, "copyOut", 0);
        run.differences(0, 0);
        run.due(24, "copied", 0);
        run.does("stretch", 0, 2);
        run.differences(1, 0);
        run.does("stretch", 0, 1);
        run.differences(0, 0);
    }

    private static final String STAYS_AS_IT_WAS = "Terms: When a note is put in, corrected or taken out later, the copy"
            + " stays as it was, until the corrections are carried to it.";

    @Sentence(STAYS_AS_IT_WAS)
    static void untilItIsCarried(Run run) {
        run.score(2, 1);
        run.notes(0, 0, 0, 0, 1, 2);
        run.due(3, "copyOut", 0);
        run.due(0, "copyOut", 1);
        run.does("correct", 0, 61);
        run.does("takeOut", 1);
        run.does("stretch", 2, 2);
        run.notes(0, 0, 1, 0);
        run.due(60, "copied", 0);
        run.due(60, "copied", 1);
        run.due(60, "copied", 2);
        run.refused(Run.STATE, "copied", 3);
        run.due(0, "carry", 1);
        run.differences(4, 0);
        run.due(4, "carry", 0);
        run.differences(0, 0);
        run.due(61, "copied", 0);
        run.refused(Run.STATE, "copied", 1);
        run.due(60, "copied", 2);
        run.due(60, "copied", 3);
    }

    private static final String A_DIFFERENCE = "Terms: A difference of a copy is a note that is in the part or in the copy,"
            + " and is not in both with the same pitch and the same length.";

    @Sentence(A_DIFFERENCE)
    static void inThePartAlone(Run run) {
        run.score(1, 1);
        run.due(0, "copyOut", 0);
        run.notes(0, 0, 0, 0);
        run.differences(1, 0);
        run.does("correct", 0, 61);
        run.does("stretch", 0, 2);
        run.differences(1, 0);
    }

    @Sentence(A_DIFFERENCE)
    static void inTheCopyAlone(Run run) {
        run.score(1, 1);
        run.notes(0, 0, 0, 0);
        run.due(1, "copyOut", 0);
        run.does("takeOut", 0);
        run.differences(1, 0);
        run.notes(0, 0, 0, 0);
        run.differences(2, 0);
    }

    @Sentence(A_DIFFERENCE)
    static void inNeither(Run run) {
        run.score(1, 1);
        run.notes(0, 0, 0, 0);
        run.does("takeOut", 0);
        run.due(0, "copyOut", 0);
        run.differences(0, 0);
        run.notes(0, 0, 0, 0);
        run.does("takeOut", 1);
        run.differences(0, 0);
    }

    @Sentence(A_DIFFERENCE)
    static void inBothWithAnotherPitch(Run run) {
        run.score(1, 1);
        run.does("addNote", 0, 0, 0, 0, 4, 60);
        run.due(1, "copyOut", 0);
        for (int pitch : new int[] {59, 61, 24, 96}) {
            run.does("correct", 0, pitch);
            run.differences(1, 0);
        }
        run.does("correct", 0, 60);
        run.differences(0, 0);
    }

    @Sentence(A_DIFFERENCE)
    static void inBothWithAnotherLength(Run run) {
        run.score(1, 1);
        run.does("addNote", 0, 0, 0, 0, 4, 60);
        run.due(1, "copyOut", 0);
        for (int length : new int[] {3, 5, 1, 16}) {
            run.does("stretch", 0, length);
            run.differences(1, 0);
        }
        run.does("correct", 0, 61);
        run.differences(1, 0);
        run.does("stretch", 0, 4);
        run.differences(1, 0);
        run.does("correct", 0, 60);
        run.differences(0, 0);
    }

    @Sentence("Terms: A note that was taken out is told by copied() as long as the copy has it.")
    static void takenOutButInTheCopy(Run run) {
        run.score(0, 1);
        run.does("addPart", 2);
        run.notes(0, 0, 0, 0, 1);
        run.does("takeOut", 1);
        run.due(1, "copyOut", 0);
        run.does("takeOut", 0);
        run.due(62, "copied", 0);
        run.refused(Run.STATE, "copied", 1);
        run.refused(Run.NONE, "pitchOf", 0);
        run.due(1, "carry", 0);
        run.refused(Run.STATE, "copied", 0);
        run.notes(0, 0, 0, 0);
        run.due(1, "copyOut", 0);
        run.does("takeOut", 2);
        run.due(62, "copied", 2);
        run.due(0, "copyOut", 0);
        run.refused(Run.STATE, "copied", 2);
    }

    /** Run.refused compares all answers with those of a bench that was not called; here are all the ways to be refused. */
    @Sentence("Terms: A method that throws an exception changes nothing.")
    static void refusedCallsThatCouldChange(Run run) {
        run.small();
        run.refused(Run.ARGUMENT, "addPart", 13);
        run.refused(Run.ARGUMENT, "addBar", 9, 0, true);
        run.refused(Run.ARGUMENT, "addBar", 4, 7, true);
        run.refused(Run.INDEX, "setMark", 5, true);
        run.refused(Run.INDEX, "setKey", 5, 0);
        run.refused(Run.ARGUMENT, "setKey", 0, 7);
        run.refused(Run.INDEX, "addNote", 3, 0, 1, 0, 1, 60);
        run.refused(Run.INDEX, "addNote", 0, 5, 1, 0, 1, 60);
        run.refused(Run.ARGUMENT, "addNote", 0, 0, 2, 0, 1, 60);
        run.refused(Run.ARGUMENT, "addNote", 0, 0, 1, 0, 1, 97);
        run.refused(Run.ARGUMENT, "addNote", 0, 0, 1, 15, 2, 60);
        run.refused(Run.UNSUPPORTED, "addNote", 0, 0, 0, 0, 5, 60);
        run.refused(Run.NONE, "correct", 4, 60);
        run.refused(Run.ARGUMENT, "correct", 0, 97);
        run.refused(Run.NONE, "stretch", 4, 1);
        run.refused(Run.ARGUMENT, "stretch", 0, 13);
        run.refused(Run.UNSUPPORTED, "stretch", 0, 9);
        run.refused(Run.NONE, "takeOut", 4);
        run.refused(Run.ARGUMENT, "setPage", 61);
        run.refused(Run.ARGUMENT, "setTurn", 65);
        run.refused(Run.ARGUMENT, "setCue", 15);
        run.refused(Run.INDEX, "copyOut", 3);
        run.refused(Run.INDEX, "carry", 3);
        run.refused(Run.STATE, "carry", 1);
    }

    /** What was corrected since the copy stays a difference. */
    @Sentence("Terms: A method that throws an exception changes nothing.")
    static void refusedCorrectionsOfACorrectedNote(Run run) {
        run.small();
        run.does("stretch", 0, 5);
        run.refused(Run.UNSUPPORTED, "stretch", 0, 9);
        run.refused(Run.ARGUMENT, "stretch", 0, 13);
        run.refused(Run.ARGUMENT, "correct", 0, 97);
        run.refused(Run.STATE, "carry", 1);
        run.does("takeOut", 2);
        run.refused(Run.NONE, "stretch", 2, 1);
        run.refused(Run.NONE, "correct", 2, 60);
        run.refused(Run.NONE, "takeOut", 2);
        run.differences(4, 0);
    }

    @Sentence("Terms: A method that throws an exception changes nothing.")
    static void refusedQuestions(Run run) {
        run.small();
        for (String name : new String[] {"notesIn", "isDivided", "writtenKey", "restFirst", "restBars", "cuePart",
            "pageEnd"}) {
            run.refused(Run.INDEX, name, 3, 0);
        }
        for (String name : new String[] {"pitchOf", "lengthOf", "written", "letterOf", "accidentalOf"}) {
            run.refused(Run.NONE, name, 4);
        }
        for (String name : new String[] {"rests", "hardTurns", "hardTurnsByTrying", "pages", "differences",
            "differencesByComparing", "meanPitch", "restShare"}) {
            run.refused(Run.INDEX, name, 3);
        }
        run.refused(Run.INDEX, "noteAt", 3, 0, 0);
        run.refused(Run.NONE, "noteAt", 0, 0, 2);
        run.refused(Run.INDEX, "restFirst", 0, 1);
        run.refused(Run.INDEX, "restBars", 0, 1);
        run.refused(Run.NONE, "pageEnd", 0, 2);
        run.refused(Run.INDEX, "cuePart", 0, 1);
        run.refused(Run.UNSUPPORTED, "cuePart", 2, 1);
        run.refused(Run.INDEX, "cuePitch", 3, 0, 0);
        run.refused(Run.UNSUPPORTED, "cuePitch", 2, 1, 0);
        run.refused(Run.NONE, "cuePitch", 2, 0, 1);
        run.refused(Run.STATE, "differences", 1);
        run.refused(Run.STATE, "differencesByComparing", 1);
        run.refused(Run.NONE, "copied", 6);
        run.refused(Run.STATE, "copied", 5);
        run.refused(Run.STATE, "copied", 3);
        run.refused(Run.ARITHMETIC, "meanPitch", 2);
    }

    private static final String FIRST_DOCUMENTED = "Terms: If several exceptions apply, the one that is documented first"
            + " is thrown.";

    @Sentence(FIRST_DOCUMENTED)
    static void firstOfAFullBench(Run run) {
        run.full();
        run.refused(Run.ARGUMENT, "addPart", 13);
        run.refused(Run.ARGUMENT, "addBar", 0, 0, true);
        run.refused(Run.ARGUMENT, "addBar", 4, -7, true);
        run.refused(Run.INDEX, "addNote", 5, 0, 0, 0, 1, 60);
        run.refused(Run.INDEX, "addNote", 0, 14, 0, 0, 1, 60);
        run.refused(Run.INDEX, "addNote", -1, 14, 2, 0, 0, 97);
        run.refused(Run.ARGUMENT, "addNote", 0, 0, 2, 0, 1, 60);
        run.refused(Run.ARGUMENT, "addNote", 0, 0, 0, 0, 1, 97);
        run.refused(Run.ARGUMENT, "addNote", 0, 0, 0, 31, 2, 60);
        run.refused(Run.UNSUPPORTED, "addNote", 0, 0, 0, 0, 1, 60);
        run.refused(Run.STATE, "addNote", 0, 1, 0, 0, 1, 60);
    }

    @Sentence(FIRST_DOCUMENTED)
    static void firstOfOthers(Run run) {
        run.small();
        run.refused(Run.INDEX, "setKey", 5, 7);
        run.refused(Run.INDEX, "addNote", 3, 0, 2, 16, 0, 97);
        run.refused(Run.INDEX, "addNote", 0, 5, 2, 16, 0, 97);
        run.refused(Run.ARGUMENT, "addNote", 0, 0, 0, 4, 13, 60);
        run.refused(Run.ARGUMENT, "addNote", 0, 0, 0, 4, 4, 23);
        run.refused(Run.NONE, "correct", 4, 97);
        run.refused(Run.NONE, "correct", 6, 23);
        run.refused(Run.NONE, "stretch", 4, 17);
        run.refused(Run.NONE, "stretch", 6, 0);
        run.refused(Run.ARGUMENT, "stretch", 0, 13);
        run.refused(Run.INDEX, "noteAt", 3, 0, 9);
        run.refused(Run.INDEX, "noteAt", 0, 5, -1);
        run.refused(Run.INDEX, "pageEnd", 3, 9);
        run.refused(Run.INDEX, "cuePart", 2, 2);
        run.refused(Run.INDEX, "cuePitch", 2, 2, 9);
        run.refused(Run.UNSUPPORTED, "cuePitch", 2, 1, 9);
        run.refused(Run.INDEX, "carry", 3);
        run.refused(Run.INDEX, "differences", -1);
        run.refused(Run.INDEX, "differencesByComparing", 3);
        run.refused(Run.NONE, "copied", 6);
        run.refused(Run.INDEX, "meanPitch", 3);
    }

    /** A note that was taken out is looked at ahead of the notes that stand where it stood. */
    @Sentence(FIRST_DOCUMENTED)
    static void takenOutBeforeTicksInCommon(Run run) {
        run.small();
        run.does("addNote", 0, 0, 1, 4, 4, 60);
        run.refused(Run.NONE, "stretch", 4, 16);
    }

    @Sentence(FIRST_DOCUMENTED)
    static void firstOfABenchWithoutBars(Run run) {
        run.refused(Run.INDEX, "restShare", 0);
        run.refused(Run.INDEX, "meanPitch", 0);
        run.refused(Run.INDEX, "addNote", 0, 0, 2, -1, 0, 97);
        run.does("addPart", 0);
        run.refused(Run.ARITHMETIC, "restShare", 0);
        run.refused(Run.ARITHMETIC, "meanPitch", 0);
        run.refused(Run.INDEX, "restShare", 1);
        run.refused(Run.INDEX, "addNote", 0, 0, 2, -1, 0, 97);
    }
}
