/** Promises 1 to 5: a test for each sentence. */
final class PromisesOfParts {
    private PromisesOfParts() {
    }

    private static final String A_NEW_OBJECT = "Promise 1: Creates a bench without parts and bars; a page takes 12 places,"
            + " a turn needs 4 ticks, and a cue 2 bars.";

    @Sentence(A_NEW_OBJECT)
    static void noPartsAndNoBars(Run run) {
        run.refused(Run.INDEX, "rests", 0);
        run.refused(Run.INDEX, "setMark", 0, true);
        run.refused(Run.NONE, "pitchOf", 0);
        run.due(0L, "ticks");
        run.due(true, "isTrue");
        run.due(0, "addPart", 0);
        run.due(0, "addBar", 1, 0, false);
        run.due(0, "addNote", 0, 0, 0, 0, 1, 60);
    }

    @Sentence(A_NEW_OBJECT)
    static void placesTicksAndBarsAreTold(Run run) {
        run.due(12, "setPage", 60);
        run.due(4, "setTurn", 64);
        run.due(2, "setCue", 14);
    }

    @Sentence(A_NEW_OBJECT)
    static void aPageTakes12Places(Run run) {
        run.score(1, 0);
        run.barOf(11);
        run.barOf(1);
        run.pages(0, "1", 0);
        run.notes(0, 1, 0, 1);
        run.pages(0, "0 1", 0);
    }

    @Sentence(A_NEW_OBJECT)
    static void aTurnNeeds4Ticks(Run run) {
        run.score(1, 0);
        run.barOf(12);
        run.bar(1, 3);
        run.does("stretch", 11, 20);
        run.pages(0, "0 1", 0);
        run.does("stretch", 11, 21);
        run.pages(1, "0 1", 0);
    }

    @Sentence(A_NEW_OBJECT)
    static void aCueNeeds2Bars(Run run) {
        run.score(2, 3);
        run.notes(0, 2, 0, 0);
        run.notes(1, 1, 0, 0);
        run.due(1, "cuePart", 0, 0);
        run.notes(0, 0, 0, 0);
        run.refused(Run.UNSUPPORTED, "cuePart", 0, 0);
    }

    @Sentence("Promise 2: Adds a part.")
    static void addsAPart(Run run) {
        run.refused(Run.INDEX, "rests", 0);
        run.does("addPart", 0);
        run.due(0, "rests", 0);
        run.refused(Run.INDEX, "rests", 1);
        run.does("addPart", 0);
        run.due(0, "rests", 1);
        run.refused(Run.INDEX, "rests", 2);
    }

    @Sentence("Promise 2: `shift`: its shift")
    static void shift(Run run) {
        run.does("addBar", 1, 0, false);
        run.outside(-12, 12, Run.ARGUMENT, "addPart", Run.HERE);
        run.due(0, "addPart", -12);
        run.due(1, "addPart", 12);
        run.notes(0, 0, 0, 0);
        run.notes(1, 0, 0, 0);
        run.due(48, "written", 0);
        run.due(72, "written", 1);
    }

    @Sentence("Promise 2: Returns the number of the part.")
    static void numberOfThePart(Run run) {
        for (int part = 0; part < 5; part++) {
            run.due(part, "addPart", part);
        }
    }

    @Sentence("Promise 2: Throws `IllegalArgumentException` if the shift is out of range")
    static void shiftOutOfRange(Run run) {
        run.outside(-12, 12, Run.ARGUMENT, "addPart", Run.HERE);
        run.small();
        run.outside(-12, 12, Run.ARGUMENT, "addPart", Run.HERE);
        run.full();
        run.outside(-12, 12, Run.ARGUMENT, "addPart", Run.HERE);
    }

    @Sentence("Promise 2: Throws `IllegalStateException` if there are 5 parts")
    static void fiveParts(Run run) {
        run.score(4, 0);
        run.due(4, "addPart", 12);
        run.refused(Run.STATE, "addPart", -12);
        run.refused(Run.STATE, "addPart", 0);
        run.refused(Run.STATE, "addPart", 12);
        run.full();
        run.refused(Run.STATE, "addPart", 0);
    }

    @Sentence("Promise 3: Adds a bar at the end.")
    static void addsABar(Run run) {
        run.refused(Run.INDEX, "setKey", 0, 0);
        run.does("addBar", 1, -6, false);
        run.refused(Run.INDEX, "setKey", 1, 0);
        run.does("addBar", 1, 6, false);
        run.refused(Run.INDEX, "setKey", 2, 0);
        run.due(-6, "setKey", 0, 0);
        run.due(6, "setKey", 1, 0);
    }

    @Sentence("Promise 3: `beats`: its beats")
    static void beats(Run run) {
        run.score(1, 0);
        run.outside(1, 8, Run.ARGUMENT, "addBar", Run.HERE, 0, false);
        run.due(0, "addBar", 1, 0, false);
        run.due(1, "addBar", 8, 0, false);
        run.refused(Run.ARGUMENT, "addNote", 0, 0, 0, 0, 5, 60);
        run.due(0, "addNote", 0, 0, 0, 0, 4, 60);
        run.refused(Run.ARGUMENT, "addNote", 0, 1, 0, 0, 33, 60);
        run.due(1, "addNote", 0, 1, 0, 0, 32, 60);
    }

    @Sentence("Promise 3: `key`: its key")
    static void key(Run run) {
        run.score(1, 0);
        run.outside(-6, 6, Run.ARGUMENT, "addBar", 1, Run.HERE, false);
        run.due(0, "addBar", 1, -6, false);
        run.due(1, "addBar", 1, 6, false);
        run.due(2, "addBar", 1, -5, false);
        run.due(6, "writtenKey", 0, 0);
        run.due(6, "writtenKey", 0, 1);
        run.due(-5, "writtenKey", 0, 2);
        run.due(-6, "setKey", 0, 0);
    }

    @Sentence("Promise 3: `hasMark`: whether it has a mark")
    static void hasMark(Run run) {
        run.score(1, 1);
        run.does("addBar", 1, 0, true);
        run.rests("0+1 1+1", 0);
        run.does("addBar", 1, 0, false);
        run.rests("0+1 1+2", 0);
        run.due(false, "setMark", 0, false);
        run.due(true, "setMark", 1, true);
        run.due(false, "setMark", 2, false);
    }

    @Sentence("Promise 3: Returns the number of the bar.")
    static void numberOfTheBar(Run run) {
        for (int bar = 0; bar < 14; bar++) {
            run.due(bar, "addBar", 8, 0, true);
        }
    }

    @Sentence("Promise 3: Throws `IllegalArgumentException` if the beats or the key are out of range")
    static void beatsOrKeyOutOfRange(Run run) {
        beatsOrKeyRefused(run);
        run.small();
        beatsOrKeyRefused(run);
        run.full();
        beatsOrKeyRefused(run);
    }

    private static void beatsOrKeyRefused(Run run) {
        run.outside(1, 8, Run.ARGUMENT, "addBar", Run.HERE, -6, false);
        run.outside(-6, 6, Run.ARGUMENT, "addBar", 8, Run.HERE, true);
        run.refused(Run.ARGUMENT, "addBar", 0, 7, true);
    }

    @Sentence("Promise 3: Throws `IllegalStateException` if there are 14 bars")
    static void fourteenBars(Run run) {
        run.score(1, 13);
        run.due(13, "addBar", 8, 6, true);
        run.refused(Run.STATE, "addBar", 1, -6, false);
        run.refused(Run.STATE, "addBar", 8, 6, true);
        run.full();
        run.refused(Run.STATE, "addBar", 4, 0, false);
    }

    @Sentence("Promise 4: Sets whether a bar has a mark.")
    static void setsAMark(Run run) {
        run.score(1, 3);
        run.does("setMark", 2, true);
        run.rests("0+2 2+1", 0);
        run.does("setMark", 2, false);
        run.rests("0+3", 0);
    }

    @Sentence("Promise 4: `bar`: the number of the bar")
    static void barOfAMark(Run run) {
        run.score(1, 14);
        run.due(false, "setMark", 0, true);
        run.due(false, "setMark", 13, true);
        run.rests("0+13 13+1", 0);
    }

    @Sentence("Promise 4: `hasMark`: whether it has one from now on")
    static void fromNowOn(Run run) {
        run.score(1, 2);
        run.rests("0+2", 0);
        run.does("setMark", 1, true);
        run.rests("0+1 1+1", 0);
        run.does("setMark", 1, true);
        run.rests("0+1 1+1", 0);
    }

    @Sentence("Promise 4: Returns whether it had one.")
    static void hadOne(Run run) {
        run.does("addBar", 1, 0, true);
        run.due(true, "setMark", 0, true);
        run.due(true, "setMark", 0, false);
        run.due(false, "setMark", 0, false);
        run.due(false, "setMark", 0, true);
        run.due(true, "setMark", 0, true);
    }

    @Sentence("Promise 4: Throws `IndexOutOfBoundsException` if there is no such bar")
    static void noSuchBarForAMark(Run run) {
        run.noSuchBar("setMark", Run.HERE, true);
        run.noSuchBar("setMark", Run.HERE, false);
    }

    @Sentence("Promise 5: Sets the key of a bar.")
    static void setsAKey(Run run) {
        run.score(1, 2);
        run.does("setKey", 1, 5);
        run.due(0, "writtenKey", 0, 0);
        run.due(5, "writtenKey", 0, 1);
    }

    @Sentence("Promise 5: `bar`: the number of the bar")
    static void barOfAKey(Run run) {
        run.score(1, 14);
        run.due(0, "setKey", 0, 1);
        run.due(0, "setKey", 13, 2);
        run.due(1, "setKey", 0, 0);
        run.due(2, "setKey", 13, 0);
    }

    @Sentence("Promise 5: `key`: the key")
    static void keyOfABar(Run run) {
        run.score(1, 1);
        run.outside(-6, 6, Run.ARGUMENT, "setKey", 0, Run.HERE);
        run.due(0, "setKey", 0, -6);
        run.due(6, "writtenKey", 0, 0);
        run.due(-6, "setKey", 0, 6);
        run.due(6, "writtenKey", 0, 0);
        run.due(6, "setKey", 0, -5);
        run.due(-5, "writtenKey", 0, 0);
    }

    @Sentence("Promise 5: Returns the key before.")
    static void keyBefore(Run run) {
        run.does("addBar", 1, 6, false);
        run.due(6, "setKey", 0, -6);
        run.due(-6, "setKey", 0, -6);
        run.due(-6, "setKey", 0, 6);
    }

    @Sentence("Promise 5: Throws `IndexOutOfBoundsException` if there is no such bar")
    static void noSuchBarForAKey(Run run) {
        run.noSuchBar("setKey", Run.HERE, 0);
        run.noSuchBar("setKey", Run.HERE, 7);
    }

    @Sentence("Promise 5: Throws `IllegalArgumentException` if the key is out of range")
    static void keyOutOfRange(Run run) {
        run.small();
        run.outside(-6, 6, Run.ARGUMENT, "setKey", 0, Run.HERE);
        run.outside(-6, 6, Run.ARGUMENT, "setKey", 4, Run.HERE);
        run.full();
        run.outside(-6, 6, Run.ARGUMENT, "setKey", 13, Run.HERE);
    }
}
