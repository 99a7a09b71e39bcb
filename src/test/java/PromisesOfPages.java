/** Promises 22 to 28: a test for each sentence that names a boundary case. */
final class PromisesOfPages {
    private PromisesOfPages() {
    }

    @Sentence("Promise 22: Sets how many places a page has.")
    static void setsThePlaces(Run run) {
        run.score(1, 0);
        run.does("setTurn", 0);
        run.bar(4, 0, 1);
        run.bar(4, 0);
        run.does("setPage", 2);
        run.due(2, "pages", 0);
        run.does("setPage", 3);
        run.due(1, "pages", 0);
    }

    @Sentence("Promise 22: `places`: the places, 1 to 60")
    static void placesFrom1To60(Run run) {
        run.outside(1, 60, Run.ARGUMENT, "setPage", Run.HERE);
        run.due(12, "setPage", 1);
        run.due(1, "setPage", 60);
        run.outside(1, 60, Run.ARGUMENT, "setPage", Run.HERE);
        run.due(60, "setPage", 59);
        run.due(59, "setPage", 2);
    }

    @Sentence("Promise 22: Returns the places before.")
    static void placesBefore(Run run) {
        run.due(12, "setPage", 60);
        run.due(60, "setPage", 60);
        run.due(60, "setPage", 1);
        run.due(1, "setPage", 1);
        run.due(4, "setTurn", 1);
        run.due(2, "setCue", 1);
    }

    @Sentence("Promise 22: Throws `IllegalArgumentException` if the places are out of range")
    static void placesOutOfRange(Run run) {
        run.small();
        run.outside(1, 60, Run.ARGUMENT, "setPage", Run.HERE);
        run.full();
        run.outside(1, 60, Run.ARGUMENT, "setPage", Run.HERE);
    }

    @Sentence("Promise 23: Sets how many ticks a turn needs.")
    static void setsTheTicks(Run run) {
        run.score(1, 0);
        run.does("setPage", 1);
        run.bar(4, 5);
        run.bar(4, 0);
        run.does("setTurn", 10);
        run.due(0, "hardTurns", 0);
        run.does("setTurn", 11);
        run.due(1, "hardTurns", 0);
    }

    @Sentence("Promise 23: `ticks`: the ticks, 0 to 64")
    static void ticksFrom0To64(Run run) {
        run.outside(0, 64, Run.ARGUMENT, "setTurn", Run.HERE);
        run.due(4, "setTurn", 0);
        run.due(0, "setTurn", 64);
        run.outside(0, 64, Run.ARGUMENT, "setTurn", Run.HERE);
        run.due(64, "setTurn", 63);
        run.due(63, "setTurn", 1);
    }

    @Sentence("Promise 23: Returns the ticks before.")
    static void ticksBefore(Run run) {
        run.due(4, "setTurn", 64);
        run.due(64, "setTurn", 64);
        run.due(64, "setTurn", 0);
        run.due(0, "setTurn", 0);
        run.due(12, "setPage", 1);
        run.due(2, "setCue", 1);
    }

    @Sentence("Promise 23: Throws `IllegalArgumentException` if the ticks are out of range")
    static void ticksOutOfRange(Run run) {
        run.small();
        run.outside(0, 64, Run.ARGUMENT, "setTurn", Run.HERE);
        run.full();
        run.outside(0, 64, Run.ARGUMENT, "setTurn", Run.HERE);
    }

    @Sentence("Promise 24: Sets how many bars a cue needs.")
    static void setsTheBars(Run run) {
        run.score(2, 4);
        run.notes(0, 3, 0, 0);
        run.notes(1, 2, 0, 0);
        run.does("setCue", 3);
        run.due(1, "cuePart", 0, 0);
        run.does("setCue", 4);
        run.refused(Run.UNSUPPORTED, "cuePart", 0, 0);
    }

    @Sentence("Promise 24: `bars`: the bars, 1 to 14")
    static void barsFrom1To14(Run run) {
        run.outside(1, 14, Run.ARGUMENT, "setCue", Run.HERE);
        run.due(2, "setCue", 1);
        run.due(1, "setCue", 14);
        run.outside(1, 14, Run.ARGUMENT, "setCue", Run.HERE);
        run.due(14, "setCue", 13);
        run.due(13, "setCue", 2);
    }

    @Sentence("Promise 24: Returns the bars before.")
    static void barsBefore(Run run) {
        run.due(2, "setCue", 14);
        run.due(14, "setCue", 14);
        run.due(14, "setCue", 1);
        run.due(1, "setCue", 1);
        run.due(12, "setPage", 1);
        run.due(4, "setTurn", 1);
    }

    @Sentence("Promise 24: Throws `IllegalArgumentException` if the bars are out of range")
    static void barsOutOfRange(Run run) {
        run.small();
        run.outside(1, 14, Run.ARGUMENT, "setCue", Run.HERE);
        run.full();
        run.outside(1, 14, Run.ARGUMENT, "setCue", Run.HERE);
    }

    private static void noTurnUpTo13(Run run, String name) {
        run.score(1, 0);
        run.does("setPage", 1);
        run.does("setTurn", 64);
        run.due(0, name, 0);
        for (int bar = 0; bar < 14; bar++) {
            run.bar(1, 0);
            run.due(bar, name, 0);
        }
        run.does("setPage", 14);
        run.due(0, name, 0);
        run.does("setPage", 13);
        run.due(1, name, 0);
        run.does("setTurn", 0);
        run.due(0, name, 0);
    }

    @Sentence("Promise 25: Returns the number of turns of a part that are not free, when its pages are made in the best"
            + " way, found block by block.")
    static void hardTurnsFoundBlockByBlock(Run run) {
        notAlwaysTheFullestPage(run, "hardTurns");
    }

    /** With the fullest pages there would be a hard turn, with more pages there is none. */
    private static void notAlwaysTheFullestPage(Run run, String name) {
        run.score(1, 0);
        run.does("setPage", 3);
        run.does("setTurn", 15);
        for (int bar = 0; bar < 7; bar++) {
            run.bar(4, bar % 3 == 1 ? 0 : 15);
        }
        run.due(0, name, 0);
        run.does("setTurn", 31);
        run.due(2, name, 0);
        run.does("setTurn", 30);
        run.due(0, name, 0);
    }

    @Sentence("Promise 25: `part`: the number of the part")
    static void partWithHardTurns(Run run) {
        hardInTheLastPart(run, "hardTurns");
    }

    /** Of five parts, the last one alone has notes. */
    private static void hardInTheLastPart(Run run, String name) {
        run.score(5, 2);
        run.does("setPage", 1);
        run.notes(4, 0, 0, 15);
        run.notes(4, 1, 0, 0);
        run.due(0, name, 0);
        run.due(1, name, 4);
        run.outside(0, 4, Run.INDEX, name, Run.HERE);
    }

    @Sentence("Promise 25: Returns the number of turns.")
    static void hardTurnsFrom0To13(Run run) {
        noTurnUpTo13(run, "hardTurns");
    }

    @Sentence("Promise 25: Throws `IndexOutOfBoundsException` if there is no such part")
    static void noPartWithHardTurns(Run run) {
        run.noSuchPart("hardTurns", Run.HERE);
    }

    @Sentence("Promise 26: Returns the same number, found by trying all ways to make pages.")
    static void hardTurnsFoundByTrying(Run run) {
        notAlwaysTheFullestPage(run, "hardTurnsByTrying");
    }

    @Sentence("Promise 26: `part`: the number of the part")
    static void partToTry(Run run) {
        hardInTheLastPart(run, "hardTurnsByTrying");
    }

    @Sentence("Promise 26: Returns the number of turns.")
    static void triedTurnsFrom0To13(Run run) {
        noTurnUpTo13(run, "hardTurnsByTrying");
    }

    @Sentence("Promise 26: Throws `IndexOutOfBoundsException` if there is no such part")
    static void noPartToTry(Run run) {
        run.noSuchPart("hardTurnsByTrying", Run.HERE);
    }

    @Sentence("Promise 27: Returns the number of pages of a part, when they are made in the best way.")
    static void pagesOfThisPart(Run run) {
        run.small();
        run.due(2, "pages", 0);
        run.due(1, "pages", 1);
        run.due(1, "pages", 2);
        run.does("setPage", 1);
        run.due(4, "pages", 0);
        run.due(3, "pages", 1);
        run.due(2, "pages", 2);
    }

    @Sentence("Promise 27: `part`: the number of the part")
    static void partWithPages(Run run) {
        run.full();
        run.due(2, "pages", 0);
        run.due(2, "pages", 4);
        run.does("setPage", 1);
        run.due(14, "pages", 4);
        run.outside(0, 4, Run.INDEX, "pages", Run.HERE);
    }

    @Sentence("Promise 27: Returns the number of pages, 0 without bars.")
    static void noPageWithoutBars(Run run) {
        run.score(1, 0);
        run.due(0, "pages", 0);
        run.due(0, "hardTurns", 0);
        run.due(0, "hardTurnsByTrying", 0);
        run.refused(Run.NONE, "pageEnd", 0, 0);
        run.does("addBar", 1, 0, false);
        run.due(1, "pages", 0);
        run.due(0, "pageEnd", 0, 0);
    }

    @Sentence("Promise 27: Throws `IndexOutOfBoundsException` if there is no such part")
    static void noPartWithPages(Run run) {
        run.noSuchPart("pages", Run.HERE);
    }

    @Sentence("Promise 28: Returns the last bar of a page, when the pages are made in the best way.")
    static void lastBarOfARestOrABar(Run run) {
        run.small();
        run.due(2, "pageEnd", 0, 0);
        run.due(4, "pageEnd", 0, 1);
        run.due(4, "pageEnd", 1, 0);
        run.due(4, "pageEnd", 2, 0);
    }

    @Sentence("Promise 28: `part`: the number of the part")
    static void partWithAPageEnd(Run run) {
        run.noSuchPart("pageEnd", Run.HERE, 0);
        run.due(0, "pageEnd", 0, 0);
        run.does("setPage", 60);
        run.due(13, "pageEnd", 4, 0);
    }

    @Sentence("Promise 28: `page`: the number of the page, from 0")
    static void pageFrom0(Run run) {
        run.score(1, 0);
        run.does("setPage", 1);
        run.outside(0, -1, Run.NONE, "pageEnd", 0, Run.HERE);
        for (int bar = 0; bar < 14; bar++) {
            run.bar(1, 0);
            run.due(0, "pageEnd", 0, 0);
            run.due(bar, "pageEnd", 0, bar);
            run.outside(0, bar, Run.NONE, "pageEnd", 0, Run.HERE);
        }
    }

    @Sentence("Promise 28: Returns the number of the bar.")
    static void numberOfTheLastBar(Run run) {
        run.score(1, 14);
        run.due(13, "pageEnd", 0, 0);
        run.notes(0, 0, 0, 0);
        run.does("setPage", 1);
        run.due(0, "pageEnd", 0, 0);
        run.due(13, "pageEnd", 0, 1);
    }

    @Sentence("Promise 28: Throws `IndexOutOfBoundsException` if there is no such part")
    static void noPartWithAPageEnd(Run run) {
        run.noSuchPart("pageEnd", Run.HERE, 0);
        run.outside(0, 4, Run.INDEX, "pageEnd", Run.HERE, -1);
    }

    @Sentence("Promise 28: Throws `NoSuchElementException` if there is no such page")
    static void noSuchPage(Run run) {
        run.small();
        run.outside(0, 1, Run.NONE, "pageEnd", 0, Run.HERE);
        run.outside(0, 0, Run.NONE, "pageEnd", 1, Run.HERE);
        run.full();
        run.does("setPage", 1);
        run.outside(0, 13, Run.NONE, "pageEnd", 4, Run.HERE);
        run.anew();
        run.score(1, 0);
        run.outside(0, -1, Run.NONE, "pageEnd", 0, Run.HERE);
    }
}
