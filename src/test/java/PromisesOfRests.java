/** Promises 19 to 21, 29 and 30: long rests and cues, a test for each sentence that names a boundary case. */
final class PromisesOfRests {
    private PromisesOfRests() {
    }

    @Sentence("Promise 19: Returns the number of long rests of a part.")
    static void restsOfThisPart(Run run) {
        run.small();
        run.due(1, "rests", 0);
        run.due(2, "rests", 1);
        run.due(2, "rests", 2);
    }

    @Sentence("Promise 19: `part`: the number of the part")
    static void partWithRests(Run run) {
        run.full();
        run.due(1, "rests", 0);
        run.due(1, "rests", 4);
        run.outside(0, 4, Run.INDEX, "rests", Run.HERE);
    }

    @Sentence("Promise 19: Returns the number of long rests.")
    static void fromNoneToOneForEachBar(Run run) {
        run.score(1, 0);
        run.due(0, "rests", 0);
        for (int bar = 0; bar < 14; bar++) {
            run.does("addBar", 1, 0, true);
            run.due(bar + 1, "rests", 0);
        }
        for (int bar = 0; bar < 14; bar++) {
            run.notes(0, bar, 0, 0);
            run.due(13 - bar, "rests", 0);
        }
    }

    @Sentence("Promise 19: Throws `IndexOutOfBoundsException` if there is no such part")
    static void noPartWithRests(Run run) {
        run.noSuchPart("rests", Run.HERE);
    }

    @Sentence("Promise 20: Returns the first bar of a long rest.")
    static void firstBarOfARest(Run run) {
        run.score(1, 14);
        run.due(0, "restFirst", 0, 0);
        run.notes(0, 12, 0, 0);
        run.due(13, "restFirst", 0, 1);
        run.notes(0, 0, 0, 0);
        run.due(1, "restFirst", 0, 0);
    }

    @Sentence("Promise 20: `part`: the number of the part")
    static void partWithAFirstBar(Run run) {
        run.noSuchPart("restFirst", Run.HERE, 0);
        run.due(1, "restFirst", 0, 0);
        run.due(0, "restFirst", 4, 0);
    }

    @Sentence("Promise 20: `rest`: the number of the long rest")
    static void restWithAFirstBar(Run run) {
        restsByNumber(run, "restFirst", 0, 13);
    }

    /** Looks at the first and the last of 14 rests, and at the numbers beyond them. */
    private static void restsByNumber(Run run, String name, int first, int last) {
        run.score(1, 14);
        for (int bar = 0; bar < 14; bar++) {
            run.does("setMark", bar, true);
        }
        run.due(first, name, 0, 0);
        run.due(last, name, 0, 13);
        run.outside(0, 13, Run.INDEX, name, 0, Run.HERE);
    }

    @Sentence("Promise 20: Returns the number of the bar.")
    static void numberOfTheFirstBar(Run run) {
        run.small();
        run.due(1, "restFirst", 0, 0);
        run.due(0, "restFirst", 1, 0);
        run.due(3, "restFirst", 1, 1);
        run.due(0, "restFirst", 2, 0);
        run.due(3, "restFirst", 2, 1);
    }

    @Sentence("Promise 20: Throws `IndexOutOfBoundsException` if there is no such part, or it has no such long rest")
    static void noFirstBar(Run run) {
        noSuchRest(run, "restFirst");
    }

    /** Refused without parts, without bars, and where only another part has such a long rest. */
    private static void noSuchRest(Run run, String name) {
        run.refused(Run.INDEX, name, 0, 0);
        run.score(2, 0);
        run.outside(0, -1, Run.INDEX, name, 0, Run.HERE);
        run.score(0, 3);
        run.notes(0, 1, 0, 0);
        run.outside(0, 1, Run.INDEX, name, 0, Run.HERE);
        run.outside(0, 0, Run.INDEX, name, 1, Run.HERE);
        run.notes(1, 0, 0, 0);
        run.notes(1, 1, 0, 0);
        run.notes(1, 2, 0, 0);
        run.outside(0, -1, Run.INDEX, name, 1, Run.HERE);
        run.refused(Run.INDEX, name, 2, 0);
        run.refused(Run.INDEX, name, Run.LEAST, Run.MOST);
    }

    @Sentence("Promise 21: Returns the number of bars of a long rest.")
    static void barsOfARest(Run run) {
        run.score(1, 14);
        run.due(14, "restBars", 0, 0);
        run.notes(0, 12, 0, 0);
        run.due(12, "restBars", 0, 0);
        run.due(1, "restBars", 0, 1);
    }

    @Sentence("Promise 21: `part`: the number of the part")
    static void partWithBarsOfRest(Run run) {
        run.noSuchPart("restBars", Run.HERE, 0);
        run.due(13, "restBars", 0, 0);
        run.due(1, "restBars", 4, 0);
    }

    @Sentence("Promise 21: `rest`: the number of the long rest")
    static void restWithBars(Run run) {
        restsByNumber(run, "restBars", 1, 1);
    }

    @Sentence("Promise 21: Returns the number of bars.")
    static void numberOfBars(Run run) {
        run.small();
        run.due(2, "restBars", 0, 0);
        run.due(2, "restBars", 1, 0);
        run.due(2, "restBars", 1, 1);
        run.due(3, "restBars", 2, 0);
        run.due(2, "restBars", 2, 1);
    }

    @Sentence("Promise 21: Throws `IndexOutOfBoundsException` if there is no such part, or it has no such long rest")
    static void noBarsOfRest(Run run) {
        noSuchRest(run, "restBars");
    }

    @Sentence("Promise 29: Returns the part from which the cue of a long rest is taken.")
    static void partOfTheCue(Run run) {
        run.small();
        run.due(1, "cuePart", 0, 0);
        run.due(1, "cuePart", 2, 0);
    }

    @Sentence("Promise 29: `part`: the number of the part")
    static void partThatRests(Run run) {
        fiveParts(run);
        run.due(4, "cuePart", 0, 0);
        run.due(0, "cuePart", 4, 0);
        run.outside(0, 4, Run.INDEX, "cuePart", Run.HERE, 0);
    }

    /** The first and the last part rest in one bar each, where the other one has a note. */
    private static void fiveParts(Run run) {
        run.score(5, 2);
        run.does("addBar", 1, 0, true);
        run.does("setCue", 1);
        run.notes(0, 1, 0, 0);
        run.notes(4, 0, 0, 0);
    }

    @Sentence("Promise 29: `rest`: the number of the long rest")
    static void restWithACue(Run run) {
        fourteenRests(run);
        run.due(1, "cuePart", 0, 0);
        run.due(1, "cuePart", 0, 12);
        run.refused(Run.UNSUPPORTED, "cuePart", 0, 13);
        run.outside(0, 13, Run.INDEX, "cuePart", 0, Run.HERE);
    }

    /** Part 0 has a rest in each of 14 bars, part 1 notes. */
    private static void fourteenRests(Run run) {
        run.score(2, 0);
        run.does("setCue", 1);
        for (int bar = 0; bar < 14; bar++) {
            run.does("addBar", 1, 0, true);
            run.does("addNote", 1, bar, 0, 0, 1, 60 + bar);
        }
    }

    @Sentence("Promise 29: Returns the number of the other part.")
    static void numberOfTheOtherPart(Run run) {
        run.score(5, 2);
        run.does("setCue", 1);
        for (int part = 0; part < 5; part++) {
            run.notes(part, 1, 0, 0);
        }
        for (int part = 4; part > 0; part--) {
            run.notes(part, 0, 0, 0);
            run.due(part, "cuePart", 0, 0);
        }
        run.does("takeOut", 8);
        run.due(2, "cuePart", 0, 0);
    }

    @Sentence("Promise 29: Throws `IndexOutOfBoundsException` if there is no such part, or it has no such long rest")
    static void noRestWithACue(Run run) {
        noSuchRest(run, "cuePart");
    }

    @Sentence("Promise 29: Throws `UnsupportedOperationException` if it has no cue")
    static void noCuePart(Run run) {
        noCue(run, "cuePart", 0, 0);
    }

    /** Refused where a single one of the conditions for a cue is missing, and answered where none is. */
    private static void noCue(Run run, String name, Object... arguments) {
        run.score(2, 3);
        run.notes(0, 2, 0, 0);
        run.refused(Run.UNSUPPORTED, name, arguments);
        run.notes(1, 1, 0, 0);
        run.does("setCue", 3);
        run.refused(Run.UNSUPPORTED, name, arguments);
        run.does("setCue", 2);
        run.does(name, arguments);
        run.does("takeOut", 0);
        run.refused(Run.UNSUPPORTED, name, arguments);
    }

    @Sentence("Promise 30: Returns the written pitch of a note of a cue.")
    static void pitchOfACue(Run run) {
        run.small();
        run.due(67, "cuePitch", 0, 0, 0);
        run.due(65, "cuePitch", 2, 0, 0);
        run.does("correct", 3, 96);
        run.due(98, "cuePitch", 0, 0, 0);
    }

    @Sentence("Promise 30: `part`: the number of the part")
    static void partThatRestsAtACue(Run run) {
        fiveParts(run);
        run.does("correct", 1, 61);
        run.due(61, "cuePitch", 0, 0, 0);
        run.due(60, "cuePitch", 4, 0, 0);
        run.outside(0, 4, Run.INDEX, "cuePitch", Run.HERE, 0, 0);
    }

    @Sentence("Promise 30: `rest`: the number of the long rest")
    static void restWithPitches(Run run) {
        fourteenRests(run);
        run.due(60, "cuePitch", 0, 0, 0);
        run.due(72, "cuePitch", 0, 12, 0);
        run.refused(Run.UNSUPPORTED, "cuePitch", 0, 13, 0);
        run.outside(0, 13, Run.INDEX, "cuePitch", 0, Run.HERE, 0);
    }

    @Sentence("Promise 30: `index`: the index of the note, from 0")
    static void indexOfAPitch(Run run) {
        run.score(2, 2);
        run.does("setCue", 1);
        run.notes(0, 1, 0, 0);
        run.does("addNote", 1, 0, 0, 1, 1, 70);
        run.due(70, "cuePitch", 0, 0, 0);
        run.outside(0, 0, Run.NONE, "cuePitch", 0, 0, Run.HERE);
        run.does("addNote", 1, 0, 0, 0, 1, 71);
        run.due(71, "cuePitch", 0, 0, 0);
        run.due(70, "cuePitch", 0, 0, 1);
        run.outside(0, 1, Run.NONE, "cuePitch", 0, 0, Run.HERE);
    }

    @Sentence("Promise 30: Returns the pitch, as it is written for the part that rests.")
    static void writtenForThePartThatRests(Run run) {
        for (int shift : new int[] {-12, 12}) {
            run.anew();
            run.does("addPart", -shift);
            run.does("addPart", shift);
            run.score(0, 3);
            run.notes(1, 2, 0, 0);
            run.does("addNote", 0, 1, 0, 0, 1, 24);
            run.does("addNote", 0, 1, 0, 1, 1, 96);
            run.due(24 + shift, "cuePitch", 1, 0, 0);
            run.due(96 + shift, "cuePitch", 1, 0, 1);
        }
    }

    @Sentence("Promise 30: Throws `IndexOutOfBoundsException` if there is no such part, or it has no such long rest")
    static void noRestWithPitches(Run run) {
        run.refused(Run.INDEX, "cuePitch", 0, 0, 0);
        fourteenRests(run);
        run.refused(Run.INDEX, "cuePitch", 1, 0, 0);
        run.refused(Run.INDEX, "cuePitch", 0, 14, 0);
        run.refused(Run.INDEX, "cuePitch", 0, 14, -1);
        run.refused(Run.INDEX, "cuePitch", 2, 0, 0);
        run.refused(Run.INDEX, "cuePitch", Run.MOST, Run.MOST, Run.MOST);
    }

    @Sentence("Promise 30: Throws `UnsupportedOperationException` if it has no cue")
    static void noCuePitch(Run run) {
        noCue(run, "cuePitch", 0, 0, 0);
        run.refused(Run.UNSUPPORTED, "cuePitch", 0, 0, -1);
    }

    @Sentence("Promise 30: Throws `NoSuchElementException` if there is no such index")
    static void noSuchIndexOfACue(Run run) {
        run.small();
        run.outside(0, 0, Run.NONE, "cuePitch", 0, 0, Run.HERE);
        run.outside(0, 0, Run.NONE, "cuePitch", 2, 0, Run.HERE);
    }
}
