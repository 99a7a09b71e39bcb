import java.util.NoSuchElementException;

/** Promises 22, 23 and 25 to 28: setPage, setTurn, hardTurns, hardTurnsByTrying, pages, pageEnd. */
public final class PagesTest {
    private static final Class<IllegalArgumentException> ARGUMENT = IllegalArgumentException.class;
    private static final Class<IndexOutOfBoundsException> INDEX = IndexOutOfBoundsException.class;
    private static final Class<NoSuchElementException> NONE = NoSuchElementException.class;

    private static final Check check = new Check("PagesTest");

    public static void main(String[] args) {
        setPageAndTurn();
        emptyScore();
        fewestPages();
        pageTooSmallForABar();
        turnsThatAreFree();
        twoVoicesAtATurn();
        longRestsAtATurn();
        fewestHardTurnsFirst();
        firstPagesAreFull();
        eachCallAlone();
        wrongParts();
        check.end();
    }

    private static void setPageAndTurn() {
        PartcopyistBench bench = new PartcopyistBench();
        check.same("promise 22: before", 12, () -> bench.setPage(60));
        check.same("promise 22: the most", 60, () -> bench.setPage(1));
        check.thrown("promise 22: 0", ARGUMENT, () -> bench.setPage(0));
        check.thrown("promise 22: 61", ARGUMENT, () -> bench.setPage(61));
        check.thrown("promise 22: least", ARGUMENT, () -> bench.setPage(Integer.MIN_VALUE));
        check.same("promise 22: the least", 1, () -> bench.setPage(2));
        check.same("promise 23: before", 4, () -> bench.setTurn(64));
        check.same("promise 23: the most", 64, () -> bench.setTurn(0));
        check.thrown("promise 23: -1", ARGUMENT, () -> bench.setTurn(-1));
        check.thrown("promise 23: 65", ARGUMENT, () -> bench.setTurn(65));
        check.thrown("promise 23: most", ARGUMENT, () -> bench.setTurn(Integer.MAX_VALUE));
        check.same("promise 23: the least", 0, () -> bench.setTurn(1));
    }

    private static void emptyScore() {
        PartcopyistBench bench = new PartcopyistBench();
        bench.addPart(0);
        same("without bars", "hard 0", bench);
        bench.addBar(4, 0, false);
        same("one bar", "hard 0 ends 0", bench);
    }

    /** Looks at all that is told of the pages of part 0. */
    private static void same(String what, String due, PartcopyistBench bench) {
        check.same("promises 25, 27, 28: " + what, due, () -> {
            StringBuilder told = new StringBuilder("hard ").append(bench.hardTurns(0));
            int count = bench.pages(0);
            told.append(count > 0 ? " ends" : "");
            for (int page = 0; page < count; page++) {
                told.append(' ').append(bench.pageEnd(0, page));
            }
            return told.toString();
        });
        check.same("promise 26: " + what, bench.hardTurns(0), () -> bench.hardTurnsByTrying(0));
        check.thrown("promise 28: page -1", NONE, () -> bench.pageEnd(0, -1));
        check.thrown("promise 28: one page more", NONE, () -> bench.pageEnd(0, bench.pages(0)));
        check.thrown("promise 28: the most", NONE, () -> bench.pageEnd(0, Integer.MAX_VALUE));
    }

    /** A part with bars of 16 ticks, each with one note of each of these first ticks and of length 1. */
    private static PartcopyistBench bench(int[]... ticksOfBars) {
        PartcopyistBench bench = new PartcopyistBench();
        bench.addPart(0);
        for (int[] ticks : ticksOfBars) {
            int bar = bench.addBar(4, 0, false);
            for (int tick : ticks) {
                bench.addNote(0, bar, 0, tick, 1, 60);
            }
        }
        return bench;
    }

    private static int[] bar(int... ticks) {
        return ticks;
    }

    private static void fewestPages() {
        PartcopyistBench bench = bench(bar(0, 1, 2), bar(0, 1, 2), bar(0, 1, 2), bar(0, 1, 2), bar(0));
        same("13 notes and 12 places: the first page is full", "hard 0 ends 3 4", bench);
        bench.setPage(13);
        same("13 places", "hard 0 ends 4", bench);
        bench.setPage(5);
        same("5 places", "hard 0 ends 0 1 2 4", bench);
        bench.setPage(6);
        same("6 places", "hard 0 ends 1 3 4", bench);
    }

    private static void pageTooSmallForABar() {
        PartcopyistBench bench = bench(bar(0), bar(0, 1, 2), bar(0), bar(0));
        bench.setPage(2);
        same("a bar with more notes than places", "hard 0 ends 0 1 3", bench);
        bench.setPage(1);
        same("one place", "hard 0 ends 0 1 2 3", bench);
    }

    private static void turnsThatAreFree() {
        PartcopyistBench bench = bench(bar(0, 13), bar(1, 15));
        bench.setPage(2);
        bench.setTurn(3);
        same("2 behind and 1 ahead are 3", "hard 0 ends 0 1", bench);
        bench.setTurn(4);
        same("3 are not 4", "hard 1 ends 0 1", bench);
        bench.stretch(1, 3);
        bench.setTurn(1);
        same("none behind and 1 ahead", "hard 0 ends 0 1", bench);
        bench.setTurn(2);
        same("1 is not 2", "hard 1 ends 0 1", bench);
        bench.setTurn(64);
        same("64", "hard 1 ends 0 1", bench);
        bench.setTurn(0);
        same("a turn that needs nothing", "hard 0 ends 0 1", bench);
        bench.setTurn(64);
        bench.setPage(4);
        same("without a turn", "hard 0 ends 1", bench);
    }

    private static void twoVoicesAtATurn() {
        PartcopyistBench bench = new PartcopyistBench();
        bench.addPart(0);
        bench.addBar(2, 0, false);
        bench.addBar(2, 0, false);
        bench.addNote(0, 0, 0, 0, 1, 60);
        bench.addNote(0, 0, 1, 3, 4, 60);
        bench.addNote(0, 1, 0, 2, 1, 60);
        bench.addNote(0, 1, 1, 5, 1, 60);
        bench.setPage(2);
        bench.setTurn(3);
        same("1 behind both voices and 2 ahead", "hard 0 ends 0 1", bench);
        bench.setTurn(4);
        same("of each voice alone there is more", "hard 1 ends 0 1", bench);
    }

    private static void longRestsAtATurn() {
        PartcopyistBench bench = bench(bar(0), bar(), bar(), bar(0, 15));
        bench.setPage(1);
        bench.setTurn(48);
        same("47 are not 48", "hard 2 ends 0 2 3", bench);
        bench.setTurn(47);
        same("15 behind and 32 ahead", "hard 1 ends 0 2 3", bench);
        bench.setTurn(32);
        same("32 behind and none ahead", "hard 0 ends 0 2 3", bench);
        bench.setMark(2, true);
        same("two rests of 16 ticks", "hard 2 ends 0 1 2 3", bench);
        bench.setTurn(31);
        same("only the two blocks at the turn count", "hard 1 ends 0 1 2 3", bench);
        bench.setTurn(33);
        same("two rests are 32, not 33", "hard 3 ends 0 1 2 3", bench);
        bench.setPage(2);
        same("two blocks on the first page", "hard 2 ends 1 2 3", bench);
    }

    private static void fewestHardTurnsFirst() {
        // Behind bar 1 there are 3 free ticks, elsewhere none.
        PartcopyistBench bench = bench(bar(0, 15), bar(0, 12), bar(0, 15), bar(0, 15));
        bench.setPage(6);
        bench.setTurn(3);
        same("the only free turn", "hard 0 ends 1 3", bench);
        bench.setTurn(4);
        same("none is free: the first page is full", "hard 1 ends 2 3", bench);
        // Free turns behind bars 0 and 2: three pages without a hard turn, or two with one.
        PartcopyistBench other = bench(bar(0, 1), bar(0, 15), bar(0, 1), bar(0, 15));
        other.setPage(4);
        other.setTurn(4);
        same("more pages with fewer hard turns", "hard 0 ends 0 2 3", other);
        other.setTurn(15);
        same("two pages if all are hard", "hard 1 ends 1 3", other);
    }

    private static void firstPagesAreFull() {
        PartcopyistBench bench = bench(bar(0), bar(0), bar(0), bar(0), bar(0), bar(0));
        bench.setPage(4);
        same("six blocks on two pages", "hard 0 ends 3 5", bench);
        bench.addNote(0, 4, 0, 4, 1, 60);
        bench.addNote(0, 4, 0, 5, 1, 60);
        same("a full page at the end", "hard 0 ends 3 5", bench);
        bench.addNote(0, 5, 0, 4, 1, 60);
        same("three pages: all but the last are full", "hard 0 ends 3 4 5", bench);
    }

    /** Each answer is that of the part asked for, whatever was asked before. */
    private static void eachCallAlone() {
        PartcopyistBench bench = bench(bar(0, 15), bar(0, 15), bar(0, 15), bar(0, 15));
        bench.addPart(0);
        bench.setPage(2);
        check.same("promise 27: four pages", 4, () -> bench.pages(0));
        check.same("promise 28: the rest of part 1", 3, () -> bench.pageEnd(1, 0));
        check.same("promise 26: three hard turns", 3, () -> bench.hardTurnsByTrying(0));
        check.same("promise 27: one page", 1, () -> bench.pages(1));
        check.same("promise 28: one bar", 0, () -> bench.pageEnd(0, 0));
        check.same("promise 26: none", 0, () -> bench.hardTurnsByTrying(1));
        check.same("promise 25: three", 3, () -> bench.hardTurns(0));
        check.same("promise 19: no rests of part 0", 0, () -> bench.rests(0));
        check.thrown("promise 20: no rest of part 0", INDEX, () -> bench.restFirst(0, 0));
        check.same("promise 21: one of part 1", 4, () -> bench.restBars(1, 0));
    }

    private static void wrongParts() {
        PartcopyistBench bench = bench(bar(0));
        for (int part : new int[] {-1, 1, 5, Integer.MIN_VALUE, Integer.MAX_VALUE}) {
            check.thrown("promise 25: part " + part, INDEX, () -> bench.hardTurns(part));
            check.thrown("promise 26: part " + part, INDEX, () -> bench.hardTurnsByTrying(part));
            check.thrown("promise 27: part " + part, INDEX, () -> bench.pages(part));
            check.thrown("promise 28: part " + part, INDEX, () -> bench.pageEnd(part, 0));
            check.thrown("promise 28: part before page " + part, INDEX, () -> bench.pageEnd(part, -1));
        }
    }
}
