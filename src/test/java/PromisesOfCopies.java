/** Promises 31 to 39: copies and totals, a test for each sentence that names a boundary case. */
final class PromisesOfCopies {
    private PromisesOfCopies() {
    }

    @Sentence("Promise 31: Copies a part, in place of an earlier copy.")
    static void inPlaceOfAnEarlierCopy(Run run) {
        run.score(1, 1);
        run.notes(0, 0, 0, 0, 1);
        run.due(2, "copyOut", 0);
        run.does("correct", 0, 61);
        run.does("takeOut", 1);
        run.notes(0, 0, 0, 2);
        run.differences(3, 0);
        run.due(2, "copyOut", 0);
        run.differences(0, 0);
        run.due(61, "copied", 0);
        run.refused(Run.STATE, "copied", 1);
        run.due(60, "copied", 2);
    }

    @Sentence("Promise 31: `part`: the number of the part")
    static void partToCopy(Run run) {
        run.full();
        run.due(64, "copyOut", 0);
        run.due(14, "copyOut", 4);
        run.refused(Run.STATE, "differences", 1);
        run.outside(0, 4, Run.INDEX, "copyOut", Run.HERE);
    }

    @Sentence("Promise 31: Returns the number of notes of the copy.")
    static void notesOfTheCopy(Run run) {
        run.score(2, 1);
        run.due(0, "copyOut", 0);
        run.notes(0, 0, 0, 0);
        run.notes(1, 0, 0, 0, 1);
        run.due(1, "copyOut", 0);
        run.due(2, "copyOut", 1);
        run.does("takeOut", 0);
        run.due(0, "copyOut", 0);
    }

    @Sentence("Promise 31: Throws `IndexOutOfBoundsException` if there is no such part")
    static void noPartToCopy(Run run) {
        run.noSuchPart("copyOut", Run.HERE);
    }

    @Sentence("Promise 32: Carries all corrections to the copy of a part.")
    static void carriesAll(Run run) {
        run.score(2, 1);
        run.notes(0, 0, 0, 0, 1, 2);
        run.notes(1, 0, 0, 0);
        run.does("copyOut", 0);
        run.does("copyOut", 1);
        run.does("correct", 0, 24);
        run.does("stretch", 2, 14);
        run.does("takeOut", 1);
        run.notes(0, 0, 1, 0);
        run.does("correct", 3, 96);
        run.due(4, "carry", 0);
        run.differences(0, 0);
        run.differences(1, 1);
        run.due(24, "copied", 0);
        run.refused(Run.STATE, "copied", 1);
        run.due(60, "copied", 4);
        run.due(60, "copied", 3);
    }

    @Sentence("Promise 32: `part`: the number of the part")
    static void partToCarry(Run run) {
        firstAndLastCopy(run);
        run.due(1, "carry", 0);
        run.due(2, "carry", 4);
        run.outside(0, 4, Run.INDEX, "carry", Run.HERE);
    }

    /** Five parts, of which the first has one difference and the last has two. */
    private static void firstAndLastCopy(Run run) {
        run.score(5, 1);
        run.does("copyOut", 0);
        run.does("copyOut", 4);
        run.notes(0, 0, 0, 0);
        run.notes(4, 0, 0, 0, 1);
    }

    @Sentence("Promise 32: Returns the number of differences that there were.")
    static void differencesThatThereWere(Run run) {
        run.score(1, 1);
        run.does("copyOut", 0);
        run.due(0, "carry", 0);
        run.notes(0, 0, 0, 0, 1);
        run.due(2, "carry", 0);
        run.due(0, "carry", 0);
        run.does("takeOut", 0);
        run.due(1, "carry", 0);
        run.due(0, "carry", 0);
    }

    @Sentence("Promise 32: Throws `IndexOutOfBoundsException` if there is no such part")
    static void noPartToCarry(Run run) {
        run.noSuchPart("carry", Run.HERE);
    }

    @Sentence("Promise 32: Throws `IllegalStateException` if it was not copied")
    static void carriedWithoutACopy(Run run) {
        notCopied(run, "carry");
    }

    /** Refused until this very part was copied, even if another one was. */
    private static void notCopied(Run run, String name) {
        run.score(5, 1);
        run.notes(4, 0, 0, 0);
        run.refused(Run.STATE, name, 0);
        run.refused(Run.STATE, name, 4);
        run.does("copyOut", 0);
        run.refused(Run.STATE, name, 4);
        run.due(0, name, 0);
        run.does("copyOut", 4);
        run.due(0, name, 4);
        run.full();
        run.refused(Run.STATE, name, 0);
        run.refused(Run.STATE, name, 4);
    }

    @Sentence("Promise 33: Returns the number of differences of the copy of a part, found from the notes that were put in,"
            + " corrected or taken out since.")
    static void differencesSince(Run run) {
        putInCorrectedAndTakenOut(run, "differences");
    }

    private static void putInCorrectedAndTakenOut(Run run, String name) {
        run.score(1, 1);
        run.notes(0, 0, 0, 0, 1, 4);
        run.does("correct", 0, 61);
        run.does("copyOut", 0);
        run.due(0, name, 0);
        run.does("correct", 0, 62);
        run.due(1, name, 0);
        run.does("correct", 0, 61);
        run.due(0, name, 0);
        run.does("stretch", 1, 2);
        run.due(1, name, 0);
        run.does("takeOut", 2);
        run.due(2, name, 0);
        run.notes(0, 0, 0, 5);
        run.due(3, name, 0);
        run.does("takeOut", 3);
        run.due(2, name, 0);
        run.does("takeOut", 1);
        run.due(2, name, 0);
    }

    @Sentence("Promise 33: `part`: the number of the part")
    static void partWithDifferences(Run run) {
        firstAndLastCopy(run);
        run.due(1, "differences", 0);
        run.due(2, "differences", 4);
        run.outside(0, 4, Run.INDEX, "differences", Run.HERE);
    }

    @Sentence("Promise 33: Returns the number of differences.")
    static void differencesFromNoneTo120(Run run) {
        noneTo120(run, "differences");
    }

    /** Sixty notes of the copy are taken out, sixty others are put in. */
    private static void noneTo120(Run run, String name) {
        run.score(1, 0);
        run.barOf(60);
        run.does("copyOut", 0);
        run.due(0, name, 0);
        for (int note = 0; note < 60; note++) {
            run.does("takeOut", note);
            run.due(note + 1, name, 0);
        }
        run.barOf(60);
        run.due(120, name, 0);
        run.does("carry", 0);
        run.due(0, name, 0);
    }

    @Sentence("Promise 33: Throws `IndexOutOfBoundsException` if there is no such part")
    static void noPartWithDifferences(Run run) {
        run.noSuchPart("differences", Run.HERE);
    }

    @Sentence("Promise 33: Throws `IllegalStateException` if it was not copied")
    static void differencesWithoutACopy(Run run) {
        notCopied(run, "differences");
    }

    @Sentence("Promise 34: Returns the same number, found by comparing what the copy sounds with the score, note by note.")
    static void differencesFoundByComparing(Run run) {
        putInCorrectedAndTakenOut(run, "differencesByComparing");
    }

    @Sentence("Promise 34: `part`: the number of the part")
    static void partToCompare(Run run) {
        firstAndLastCopy(run);
        run.due(1, "differencesByComparing", 0);
        run.due(2, "differencesByComparing", 4);
        run.outside(0, 4, Run.INDEX, "differencesByComparing", Run.HERE);
    }

    @Sentence("Promise 34: Returns the number of differences.")
    static void comparedFromNoneTo120(Run run) {
        noneTo120(run, "differencesByComparing");
    }

    @Sentence("Promise 34: Throws `IndexOutOfBoundsException` if there is no such part")
    static void noPartToCompare(Run run) {
        run.noSuchPart("differencesByComparing", Run.HERE);
    }

    @Sentence("Promise 34: Throws `IllegalStateException` if it was not copied")
    static void comparedWithoutACopy(Run run) {
        notCopied(run, "differencesByComparing");
    }

    @Sentence("Promise 35: Returns the pitch at which a note is written in the copy of its part.")
    static void writtenInTheCopyOfItsPart(Run run) {
        run.full();
        run.does("copyOut", 1);
        run.does("copyOut", 2);
        run.due(84, "copied", 64);
        run.due(107, "copied", 65);
        run.does("correct", 64, 24);
        run.due(84, "copied", 64);
    }

    @Sentence("Promise 35: `note`: the number of the note")
    static void noteOfACopy(Run run) {
        run.full();
        run.does("copyOut", 0);
        run.does("copyOut", 4);
        run.due(24, "copied", 0);
        run.due(36, "copied", 119);
        run.outside(0, 119, Run.NONE, "copied", Run.HERE);
    }

    @Sentence("Promise 35: Returns the written pitch in the copy.")
    static void lowestAndHighestInTheCopy(Run run) {
        run.score(0, 1);
        run.does("addPart", -12);
        run.does("addPart", 12);
        run.does("addNote", 0, 0, 0, 0, 1, 24);
        run.does("addNote", 1, 0, 0, 0, 1, 96);
        run.does("copyOut", 0);
        run.does("copyOut", 1);
        run.does("correct", 0, 96);
        run.does("correct", 1, 24);
        run.due(12, "copied", 0);
        run.due(108, "copied", 1);
        run.does("carry", 0);
        run.does("carry", 1);
        run.due(84, "copied", 0);
        run.due(36, "copied", 1);
    }

    @Sentence("Promise 35: Throws `NoSuchElementException` if no such note was put in")
    static void noSuchNoteWasPutIn(Run run) {
        run.noSuchNote("copied", Run.HERE);
    }

    @Sentence("Promise 35: Throws `IllegalStateException` if its part was not copied, or the copy does not have it")
    static void notInTheCopy(Run run) {
        run.score(2, 1);
        run.notes(0, 0, 0, 0, 1);
        run.notes(1, 0, 0, 0);
        run.refused(Run.STATE, "copied", 0);
        run.does("takeOut", 1);
        run.refused(Run.STATE, "copied", 1);
        run.does("copyOut", 1);
        run.refused(Run.STATE, "copied", 0);
        run.due(60, "copied", 2);
        run.does("copyOut", 0);
        run.due(60, "copied", 0);
        run.refused(Run.STATE, "copied", 1);
        run.notes(0, 0, 1, 0);
        run.refused(Run.STATE, "copied", 3);
        run.does("takeOut", 3);
        run.does("carry", 0);
        run.refused(Run.STATE, "copied", 3);
    }

    @Sentence("Promise 36: Returns the sum of the lengths of all notes of the score.")
    static void lengthsOfAllParts(Run run) {
        run.due(0L, "ticks");
        run.score(5, 14);
        run.due(0L, "ticks");
        for (int part = 0; part < 5; part++) {
            run.does("addNote", part, 13, 1, 0, 16, 60);
            run.due(16L * part + 16, "ticks");
        }
    }

    @Sentence("Promise 36: Returns the sum of the ticks.")
    static void theMostTicks(Run run) {
        run.score(5, 0);
        for (int bar = 0; bar < 12; bar++) {
            run.does("addBar", 8, 0, false);
            for (int note = 0; note < 10; note++) {
                run.does("addNote", note / 2, bar, note % 2, 0, 32, 60);
            }
        }
        run.due(120L * 32, "ticks");
        run.does("takeOut", 119);
        run.due(119L * 32, "ticks");
        run.does("stretch", 0, 1);
        run.due(118L * 32 + 1, "ticks");
    }

    @Sentence("Promise 37: Returns the mean pitch of the notes of a part.")
    static void meanOfThisPart(Run run) {
        run.score(0, 1);
        run.does("addPart", 12);
        run.does("addPart", -12);
        run.does("addNote", 0, 0, 0, 0, 16, 96);
        run.does("addNote", 1, 0, 0, 0, 1, 24);
        run.due(96.0, "meanPitch", 0);
        run.due(24.0, "meanPitch", 1);
    }

    @Sentence("Promise 37: `part`: the number of the part")
    static void partWithAMean(Run run) {
        run.full();
        run.due(55.5, "meanPitch", 0);
        run.due(67.0, "meanPitch", 4);
        run.outside(0, 4, Run.INDEX, "meanPitch", Run.HERE);
    }

    @Sentence("Promise 37: Returns the sum of the pitches divided by the number of notes, both converted to double.")
    static void notAWholeNumber(Run run) {
        run.score(1, 1);
        run.does("addNote", 0, 0, 0, 0, 1, 24);
        run.does("addNote", 0, 0, 0, 1, 1, 25);
        run.due(24.5, "meanPitch", 0);
        run.does("addNote", 0, 0, 0, 2, 1, 24);
        run.due(73.0 / 3.0, "meanPitch", 0);
        run.does("correct", 1, 96);
        run.due(48.0, "meanPitch", 0);
        run.does("takeOut", 1);
        run.due(24.0, "meanPitch", 0);
    }

    @Sentence("Promise 37: Throws `IndexOutOfBoundsException` if there is no such part")
    static void noPartWithAMean(Run run) {
        run.noSuchPart("meanPitch", Run.HERE);
    }

    @Sentence("Promise 37: Throws `ArithmeticException` if the part has no notes")
    static void noNotesNoMean(Run run) {
        run.score(2, 0);
        run.refused(Run.ARITHMETIC, "meanPitch", 0);
        run.score(0, 1);
        run.notes(1, 0, 0, 0);
        run.refused(Run.ARITHMETIC, "meanPitch", 0);
        run.notes(0, 0, 0, 0);
        run.due(60.0, "meanPitch", 0);
        run.does("takeOut", 1);
        run.refused(Run.ARITHMETIC, "meanPitch", 0);
        run.due(60.0, "meanPitch", 1);
    }

    @Sentence("Promise 38: Returns the share of the bars that are empty for a part.")
    static void shareOfThisPart(Run run) {
        run.small();
        run.due(0.4f, "restShare", 0);
        run.due(0.8f, "restShare", 1);
        run.due(1.0f, "restShare", 2);
    }

    @Sentence("Promise 38: `part`: the number of the part")
    static void partWithAShare(Run run) {
        run.full();
        run.due(13.0f / 14.0f, "restShare", 0);
        run.due(1.0f / 14.0f, "restShare", 4);
        run.outside(0, 4, Run.INDEX, "restShare", Run.HERE);
    }

    @Sentence("Promise 38: Returns the number of these bars divided by that of all bars, both converted to float.")
    static void fromNoneToAllBars(Run run) {
        run.score(1, 14);
        run.due(1.0f, "restShare", 0);
        for (int bar = 0; bar < 14; bar++) {
            run.notes(0, bar, 0, 0, 1);
            run.due((13 - bar) / 14.0f, "restShare", 0);
        }
    }

    @Sentence("Promise 38: Throws `IndexOutOfBoundsException` if there is no such part")
    static void noPartWithAShare(Run run) {
        run.noSuchPart("restShare", Run.HERE);
    }

    @Sentence("Promise 38: Throws `ArithmeticException` if there are no bars")
    static void noBarsNoShare(Run run) {
        run.score(5, 0);
        run.refused(Run.ARITHMETIC, "restShare", 0);
        run.refused(Run.ARITHMETIC, "restShare", 4);
        run.score(0, 1);
        run.due(1.0f, "restShare", 0);
        run.notes(0, 0, 0, 0);
        run.due(0.0f, "restShare", 0);
    }

    @Sentence("Promise 39: Returns whether all is true: for each part, the turns that are not free are as many by trying,"
            + " and for each copy, the differences are as many by comparing; and each spelled note has the pitch at"
            + " which it is written, up to octaves.")
    static void allIsTrueFromEmptyToFull(Run run) {
        run.due(true, "isTrue");
        run.small();
        run.due(true, "isTrue");
        run.full();
        for (int part = 0; part < 5; part++) {
            run.does("copyOut", part);
        }
        run.due(true, "isTrue");
        for (int note = 0; note < 120; note += 3) {
            run.does("correct", note, note % 2 == 0 ? 24 : 96);
        }
        for (int note = 1; note < 120; note += 3) {
            run.does("takeOut", note);
        }
        run.does("setPage", 1);
        run.does("setTurn", 64);
        run.due(true, "isTrue");
    }

    /** Every written key with every written pitch up to octaves, and all shifts. */
    @Sentence("Promise 39: Returns whether this holds.")
    static void eachKeyWithEachPitch(Run run) {
        for (int shift = -12; shift <= 12; shift++) {
            run.anew();
            run.does("addPart", shift);
            run.does("addBar", 3, 0, false);
            for (int i = 0; i < 12; i++) {
                run.does("addNote", 0, 0, 0, i, 1, 60 + i);
            }
            for (int key = -6; key <= 6; key++) {
                run.does("setKey", 0, key);
                run.due(true, "isTrue");
            }
        }
    }
}
