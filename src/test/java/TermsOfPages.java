/** 'Terms' from long rests to cues: one test or more for each sentence that names a boundary case. */
final class TermsOfPages {
    private TermsOfPages() {
    }

    @Sentence("Terms: A bar is empty for a part if the part has no notes in it.")
    static void oneNoteIsEnough(Run run) {
        run.score(2, 1);
        run.rests("0+1", 0);
        run.does("addNote", 0, 0, 1, 15, 1, 60);
        run.rests("", 0);
        run.rests("0+1", 1);
        run.does("takeOut", 0);
        run.rests("0+1", 0);
    }

    private static final String A_LONG_REST = "Terms: A long rest of a part is a row of bars, one behind the other, that"
            + " are empty for it and of which only the first one may have a mark; it is as long as possible.";

    @Sentence(A_LONG_REST)
    static void noBarOneBarAllBars(Run run) {
        run.score(1, 0);
        run.rests("", 0);
        run.does("addBar", 1, 0, false);
        run.rests("0+1", 0);
        run.score(0, 13);
        run.rests("0+14", 0);
    }

    @Sentence(A_LONG_REST)
    static void marksFromTheFirstToTheLastBar(Run run) {
        run.score(1, 14);
        run.does("setMark", 0, true);
        run.rests("0+14", 0);
        run.does("setMark", 13, true);
        run.rests("0+13 13+1", 0);
        run.does("setMark", 1, true);
        run.rests("0+1 1+12 13+1", 0);
        run.does("setMark", 13, false);
        run.rests("0+1 1+13", 0);
        for (int bar = 2; bar < 14; bar++) {
            run.does("setMark", bar, true);
        }
        run.rests("0+1 1+1 2+1 3+1 4+1 5+1 6+1 7+1 8+1 9+1 10+1 11+1 12+1 13+1", 0);
    }

    @Sentence(A_LONG_REST)
    static void notesFromTheFirstToTheLastBar(Run run) {
        run.score(1, 14);
        run.notes(0, 0, 0, 0);
        run.rests("1+13", 0);
        run.notes(0, 13, 0, 0);
        run.rests("1+12", 0);
        run.notes(0, 7, 0, 0);
        run.rests("1+6 8+5", 0);
        run.does("takeOut", 0);
        run.rests("0+7 8+5", 0);
        run.does("takeOut", 1);
        run.rests("0+7 8+6", 0);
    }

    @Sentence(A_LONG_REST)
    static void aMarkBesideNotes(Run run) {
        run.score(1, 5);
        run.notes(0, 2, 0, 0);
        run.does("setMark", 2, true);
        run.rests("0+2 3+2", 0);
        run.does("setMark", 3, true);
        run.rests("0+2 3+2", 0);
        run.does("setMark", 4, true);
        run.rests("0+2 3+1 4+1", 0);
    }

    @Sentence("Terms: The long rests of a part are numbered from 0, from the first bar on.")
    static void numbersOfRests(Run run) {
        run.score(1, 14);
        for (int bar = 12; bar >= 0; bar -= 2) {
            run.notes(0, bar, 0, 0);
        }
        run.rests("1+1 3+1 5+1 7+1 9+1 11+1 13+1", 0);
        run.outside(0, 6, Run.INDEX, "restFirst", 0, Run.HERE);
        run.outside(0, 6, Run.INDEX, "restBars", 0, Run.HERE);
    }

    @Sentence("Terms: The blocks of a part are its long rests and each of its other bars, in their order.")
    static void eachBlockOnAPageOfItsOwn(Run run) {
        run.score(2, 0);
        run.does("setPage", 1);
        run.does("setTurn", 0);
        run.pages(0, "", 0);
        run.bar(4);
        run.bar(4);
        run.bar(4, 0);
        run.bar(4, 0);
        run.bar(4);
        run.pages(0, "1 2 3 4", 0);
        run.pages(0, "4", 1);
        run.does("setMark", 1, true);
        run.pages(0, "0 1 2 3 4", 0);
        run.pages(0, "0 4", 1);
    }

    private static final String PLACES = "Terms: A long rest takes 1 place, and another bar as many places as it has"
            + " notes.";

    @Sentence(PLACES)
    static void aRestTakesOnePlace(Run run) {
        run.score(1, 13);
        run.does("setTurn", 0);
        run.bar(4, 0);
        run.does("setPage", 2);
        run.pages(0, "13", 0);
        run.does("setPage", 1);
        run.pages(0, "12 13", 0);
    }

    @Sentence(PLACES)
    static void aBarTakesAPlaceForEachNote(Run run) {
        run.score(1, 1);
        run.does("setTurn", 0);
        run.bar(4, 3, 4, 5);
        run.notes(0, 1, 1, 4);
        run.does("setPage", 5);
        run.pages(0, "1", 0);
        run.does("setPage", 4);
        run.pages(0, "0 1", 0);
        run.does("takeOut", 0);
        run.pages(0, "1", 0);
    }

    private static final String A_PAGE = "Terms: A page takes blocks that follow each other, at most as many places as a"
            + " page has, but at least one block.";

    @Sentence(A_PAGE)
    static void aPageOf60Places(Run run) {
        run.score(1, 0);
        run.does("setPage", 60);
        run.does("setTurn", 0);
        run.barOf(59);
        run.barOf(1);
        run.pages(0, "1", 0);
        run.does("addNote", 0, 1, 0, 31, 1, 60);
        run.pages(0, "0 1", 0);
        run.does("takeOut", 0);
        run.pages(0, "1", 0);
    }

    @Sentence(A_PAGE)
    static void aPageOfOnePlace(Run run) {
        run.score(1, 0);
        run.does("setPage", 1);
        run.does("setTurn", 0);
        for (int bar = 0; bar < 14; bar++) {
            run.bar(1, 0);
        }
        run.pages(0, "0 1 2 3 4 5 6 7 8 9 10 11 12 13", 0);
        run.does("setPage", 13);
        run.pages(0, "12 13", 0);
        run.does("setPage", 14);
        run.pages(0, "13", 0);
    }

    @Sentence(A_PAGE)
    static void aBlockWithMorePlacesThanAPage(Run run) {
        run.score(1, 0);
        run.does("setTurn", 0);
        run.barOf(1);
        run.barOf(64);
        run.does("setPage", 60);
        run.pages(0, "0 1", 0);
        run.barOf(1);
        run.pages(0, "0 1 2", 0);
        run.does("setPage", 1);
        run.pages(0, "0 1 2", 0);
    }

    @Sentence(A_PAGE)
    static void aBlockWithAsManyPlacesAsAPage(Run run) {
        run.score(1, 0);
        run.does("setTurn", 0);
        run.does("setPage", 3);
        run.bar(4, 0, 1, 2);
        run.bar(4, 0, 1, 2, 3);
        run.bar(4, 0, 1);
        run.bar(4, 0);
        run.bar(4, 0);
        run.pages(0, "0 1 3 4", 0);
    }

    @Sentence("Terms: At the end of each page but the last one, there is a turn.")
    static void oneTurnLessThanPages(Run run) {
        run.score(1, 0);
        run.does("setPage", 1);
        run.does("setTurn", 64);
        run.pages(0, "", 0);
        StringBuilder ends = new StringBuilder();
        for (int bar = 0; bar < 14; bar++) {
            run.bar(1, 0);
            run.pages(bar, ends.append(bar == 0 ? "" : " ").append(bar).toString(), 0);
        }
    }

    private static final String A_FREE_TURN = "Terms: A turn is free if the ticks without notes that end the last block"
            + " of the page, together with those that begin the next block, are at least as many as a turn needs; all"
            + " ticks of a long rest are without notes.";

    /** Looks at the last number of ticks with which the turn behind bar 0 is free, and at the next. */
    private static void freeUpTo(Run run, int ticks, String ends) {
        run.does("setTurn", ticks);
        run.pages(0, ends, 0);
        run.does("setTurn", ticks + 1);
        run.pages(1, ends, 0);
    }

    @Sentence(A_FREE_TURN)
    static void endAndBeginningTogether(Run run) {
        run.score(1, 0);
        run.does("setPage", 2);
        run.bar(4, 0, 12);
        run.bar(4, 1, 15);
        freeUpTo(run, 4, "0 1");
        run.does("stretch", 1, 4);
        freeUpTo(run, 1, "0 1");
        run.does("stretch", 1, 3);
        freeUpTo(run, 2, "0 1");
    }

    @Sentence(A_FREE_TURN)
    static void noTickWithoutNotes(Run run) {
        run.score(1, 0);
        run.does("setPage", 1);
        run.bar(1, 3);
        run.bar(1, 0);
        freeUpTo(run, 0, "0 1");
    }

    @Sentence(A_FREE_TURN)
    static void bothVoicesAtATurn(Run run) {
        run.score(1, 2);
        run.does("setPage", 2);
        run.does("addNote", 0, 0, 0, 0, 15, 60);
        run.does("addNote", 0, 0, 1, 9, 1, 60);
        run.does("addNote", 0, 1, 0, 9, 1, 60);
        run.does("addNote", 0, 1, 1, 2, 1, 60);
        freeUpTo(run, 3, "0 1");
        run.does("stretch", 0, 16);
        freeUpTo(run, 2, "0 1");
    }

    @Sentence(A_FREE_TURN)
    static void restsAtATurn(Run run) {
        run.score(1, 0);
        run.does("setPage", 1);
        run.does("addBar", 8, 0, false);
        run.does("addBar", 8, 0, true);
        run.does("setTurn", 64);
        run.pages(0, "0 1", 0);
        run.notes(0, 1, 0, 31);
        freeUpTo(run, 63, "0 1");
        run.does("takeOut", 0);
        run.notes(0, 0, 0, 0);
        freeUpTo(run, 63, "0 1");
    }

    @Sentence(A_FREE_TURN)
    static void allBarsOfARestAheadOfATurn(Run run) {
        run.score(1, 3);
        run.does("setPage", 1);
        run.bar(4, 15);
        freeUpTo(run, 63, "2 3");
    }

    @Sentence(A_FREE_TURN)
    static void allBarsOfARestBehindATurn(Run run) {
        run.score(1, 0);
        run.does("setPage", 1);
        run.bar(4, 0);
        run.score(0, 3);
        freeUpTo(run, 63, "0 3");
    }

    /** 13 bars of 32 ticks: more than any turn needs. */
    @Sentence(A_FREE_TURN)
    static void theLongestRestAtATurn(Run run) {
        run.score(1, 0);
        run.does("setPage", 1);
        run.does("setTurn", 64);
        for (int bar = 0; bar < 13; bar++) {
            run.does("addBar", 8, 0, false);
        }
        run.bar(8, 0);
        run.pages(0, "12 13", 0);
    }

    private static final String THE_BEST_WAY = "Terms: Of all ways to make pages, the best one has the fewest turns that"
            + " are not free; of several, the fewest pages; and of several, more blocks on the first page on which they"
            + " differ.";

    @Sentence(THE_BEST_WAY)
    static void fewestHardTurnsFirst(Run run) {
        run.score(1, 0);
        run.does("setPage", 2);
        // The turns behind bars 0 and 2 have 30 ticks without notes, that behind bar 1 has none.
        run.bar(4, 0);
        run.bar(4, 15);
        run.bar(4, 0);
        run.bar(4, 15);
        run.does("setTurn", 30);
        run.pages(0, "0 2 3", 0);
        run.does("setTurn", 31);
        run.pages(1, "1 3", 0);
        run.does("setTurn", 0);
        run.pages(0, "1 3", 0);
    }

    @Sentence(THE_BEST_WAY)
    static void oneHardTurnIsBetterThanTwo(Run run) {
        run.score(1, 0);
        run.does("setPage", 3);
        // Only the turn behind bar 1 is free, and two turns are needed.
        run.bar(4, 0, 15);
        run.bar(4, 0);
        run.bar(4, 15);
        run.bar(4, 0, 15);
        run.bar(4, 0, 15);
        run.does("setTurn", 30);
        run.pages(1, "1 3 4", 0);
        run.does("setTurn", 31);
        run.pages(2, "1 3 4", 0);
    }

    @Sentence(THE_BEST_WAY)
    static void thenFewestPages(Run run) {
        run.score(1, 0);
        run.does("setTurn", 0);
        for (int bar = 0; bar < 6; bar++) {
            run.bar(1, 0);
        }
        run.does("setPage", 6);
        run.pages(0, "5", 0);
        run.does("setPage", 5);
        run.pages(0, "4 5", 0);
        run.does("setPage", 3);
        run.pages(0, "2 5", 0);
        run.does("setPage", 2);
        run.pages(0, "1 3 5", 0);
    }

    @Sentence(THE_BEST_WAY)
    static void thenMoreBlocksOnTheFirstPages(Run run) {
        run.score(1, 0);
        run.does("setTurn", 0);
        run.does("setPage", 4);
        run.bar(4, 0, 1, 2, 3);
        for (int bar = 1; bar < 7; bar++) {
            run.bar(1, 0);
        }
        run.pages(0, "0 4 6", 0);
        run.notes(0, 1, 0, 1);
        run.pages(0, "0 3 6", 0);
        run.notes(0, 2, 0, 1);
        run.pages(0, "0 2 6", 0);
    }

    private static final String HAS_A_CUE = "Terms: A long rest has a cue if it has at least as many bars as a cue needs,"
            + " another bar follows it, and some other part has notes in its last bar.";

    /** Part 0 has a note in the last bar alone, part 1 in the bar ahead of it. */
    private static void restOf(Run run, int bars) {
        run.anew();
        run.score(2, bars + 1);
        run.notes(0, bars, 0, 0);
        run.notes(1, bars - 1, 0, 0);
    }

    @Sentence(HAS_A_CUE)
    static void asManyBarsAsACueNeeds(Run run) {
        for (int bars = 1; bars <= 13; bars++) {
            restOf(run, bars);
            run.does("setCue", bars);
            run.due(1, "cuePart", 0, 0);
            run.does("setCue", bars + 1);
            run.refused(Run.UNSUPPORTED, "cuePart", 0, 0);
            run.does("setCue", 1);
            run.due(1, "cuePart", 0, 0);
        }
    }

    @Sentence(HAS_A_CUE)
    static void anotherBarFollows(Run run) {
        run.score(2, 2);
        run.notes(1, 1, 0, 0);
        run.refused(Run.UNSUPPORTED, "cuePart", 0, 0);
        run.does("addBar", 1, 0, true);
        run.due(1, "cuePart", 0, 0);
        run.does("setMark", 2, false);
        run.refused(Run.UNSUPPORTED, "cuePart", 0, 0);
    }

    /** A rest of all bars has no bar behind it, whatever a cue needs. */
    @Sentence(HAS_A_CUE)
    static void noBarFollowsAllBars(Run run) {
        run.score(2, 14);
        run.notes(1, 13, 0, 0);
        run.does("setCue", 14);
        run.refused(Run.UNSUPPORTED, "cuePart", 0, 0);
        run.does("setCue", 1);
        run.refused(Run.UNSUPPORTED, "cuePart", 0, 0);
    }

    @Sentence(HAS_A_CUE)
    static void notesInTheLastBar(Run run) {
        run.score(2, 4);
        run.notes(1, 1, 0, 0);
        run.notes(0, 3, 0, 0);
        run.notes(1, 3, 0, 0);
        run.refused(Run.UNSUPPORTED, "cuePart", 0, 0);
        run.notes(1, 2, 1, 15);
        run.due(1, "cuePart", 0, 0);
        run.does("takeOut", 3);
        run.refused(Run.UNSUPPORTED, "cuePart", 0, 0);
    }

    @Sentence(HAS_A_CUE)
    static void someOtherPart(Run run) {
        run.score(1, 3);
        run.notes(0, 2, 0, 0);
        run.refused(Run.UNSUPPORTED, "cuePart", 0, 0);
        run.score(1, 0);
        run.refused(Run.UNSUPPORTED, "cuePart", 0, 0);
        run.notes(1, 1, 0, 0);
        run.due(1, "cuePart", 0, 0);
    }

    private static final String FROM_WHICH_PART = "Terms: The cue is taken from the part, of those, that has the most"
            + " notes in this bar, of several from the one with the lowest number; its notes are those of this part in"
            + " this bar, written as for the part that rests.";

    @Sentence(FROM_WHICH_PART)
    static void mostNotesThenLowestNumber(Run run) {
        run.score(5, 3);
        run.notes(2, 2, 0, 0);
        run.notes(4, 1, 0, 0);
        run.due(4, "cuePart", 2, 0);
        run.notes(3, 1, 1, 0);
        run.due(3, "cuePart", 2, 0);
        run.notes(0, 1, 1, 0);
        run.due(0, "cuePart", 2, 0);
        run.notes(4, 1, 1, 0);
        run.due(4, "cuePart", 2, 0);
        run.notes(1, 1, 0, 0, 1);
        run.due(1, "cuePart", 2, 0);
        run.notes(4, 1, 1, 1);
        run.due(4, "cuePart", 2, 0);
        run.notes(0, 0, 0, 0, 1, 2, 3);
        run.notes(0, 2, 0, 0, 1, 2, 3);
        run.due(4, "cuePart", 2, 0);
    }

    @Sentence(FROM_WHICH_PART)
    static void notesOfTheCue(Run run) {
        run.score(0, 3);
        run.does("addPart", 12);
        run.does("addPart", -12);
        run.notes(0, 2, 0, 0);
        run.notes(1, 1, 0, 5);
        run.does("addNote", 1, 1, 1, 4, 1, 24);
        run.does("addNote", 1, 1, 1, 5, 1, 96);
        run.notes(1, 0, 0, 0);
        run.due(36, "cuePitch", 0, 0, 0);
        run.due(72, "cuePitch", 0, 0, 1);
        run.due(108, "cuePitch", 0, 0, 2);
        run.outside(0, 2, Run.NONE, "cuePitch", 0, 0, Run.HERE);
    }

    @Sentence(FROM_WHICH_PART)
    static void aCueOfAFullBar(Run run) {
        run.score(0, 1);
        run.does("addPart", 0);
        run.does("addPart", -12);
        run.does("setCue", 1);
        run.barOf(64);
        run.does("setMark", 1, true);
        run.does("addBar", 1, 0, true);
        run.due(0, "cuePart", 1, 1);
        run.due(48, "cuePitch", 1, 1, 0);
        run.due(48, "cuePitch", 1, 1, 63);
        run.outside(0, 63, Run.NONE, "cuePitch", 1, 1, Run.HERE);
    }

    @Sentence("Terms: For a turn, the last block of the page and the first block of the next one count alone.")
    static void onlyTheBlocksAtTheTurn(Run run) {
        run.score(1, 0);
        run.does("setPage", 1);
        // Four rests of 4 ticks each, as each bar has a mark.
        for (int bar = 0; bar < 4; bar++) {
            run.does("addBar", 1, 0, true);
        }
        run.does("setTurn", 8);
        run.pages(0, "0 1 2 3", 0);
        run.does("setTurn", 9);
        run.pages(3, "0 1 2 3", 0);
        run.does("setPage", 2);
        run.pages(1, "1 3", 0);
    }

    @Sentence("Terms: The bar that follows a long rest with a cue may be empty, too.")
    static void anEmptyBarFollows(Run run) {
        run.score(2, 2);
        run.does("addBar", 4, 0, true);
        run.notes(1, 1, 0, 0);
        run.rests("0+2 2+1", 0);
        run.due(1, "cuePart", 0, 0);
        run.due(60, "cuePitch", 0, 0, 0);
        run.refused(Run.UNSUPPORTED, "cuePart", 0, 1);
        run.refused(Run.UNSUPPORTED, "cuePitch", 0, 1, 0);
    }
}
