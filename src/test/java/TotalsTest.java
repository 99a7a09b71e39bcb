/** Promises 36 to 39: ticks, meanPitch, restShare, isTrue. */
public final class TotalsTest {
    private static final Class<IndexOutOfBoundsException> INDEX = IndexOutOfBoundsException.class;
    private static final Class<ArithmeticException> ARITHMETIC = ArithmeticException.class;

    private static final Check check = new Check("TotalsTest");

    public static void main(String[] args) {
        ticks();
        meanPitch();
        restShare();
        isTrue();
        check.end();
    }

    private static PartcopyistBench bench(int bars) {
        PartcopyistBench bench = new PartcopyistBench();
        bench.addPart(5);
        bench.addPart(0);
        for (int bar = 0; bar < bars; bar++) {
            bench.addBar(8, 0, bar % 2 == 1);
        }
        return bench;
    }

    private static void ticks() {
        PartcopyistBench bench = bench(2);
        check.same("promise 36: no notes", 0L, bench::ticks);
        bench.addNote(0, 0, 0, 0, 32, 60);
        bench.addNote(1, 1, 1, 30, 2, 60);
        check.same("promise 36: of all parts", 34L, bench::ticks);
        bench.stretch(0, 3);
        check.same("promise 36: stretched", 5L, bench::ticks);
        bench.copyOut(1);
        bench.takeOut(1);
        check.same("promise 36: taken out", 3L, bench::ticks);
    }

    private static void meanPitch() {
        PartcopyistBench bench = bench(2);
        check.thrown("promise 37: no notes", ARITHMETIC, () -> bench.meanPitch(0));
        bench.addNote(0, 0, 0, 0, 32, 60);
        check.same("promise 37: one, as it sounds", 60.0, () -> bench.meanPitch(0));
        check.thrown("promise 37: the other part", ARITHMETIC, () -> bench.meanPitch(1));
        bench.addNote(0, 1, 1, 0, 1, 61);
        bench.addNote(1, 1, 1, 0, 1, 96);
        check.same("promise 37: half", 60.5, () -> bench.meanPitch(0));
        bench.addNote(0, 1, 0, 0, 1, 61);
        check.same("promise 37: a third", 182.0 / 3.0, () -> bench.meanPitch(0));
        bench.correct(0, 24);
        bench.takeOut(1);
        check.same("promise 37: corrected and taken out", 42.5, () -> bench.meanPitch(0));
        bench.takeOut(0);
        bench.takeOut(3);
        check.thrown("promise 37: all taken out", ARITHMETIC, () -> bench.meanPitch(0));
        check.thrown("promise 37: part -1", INDEX, () -> bench.meanPitch(-1));
        check.thrown("promise 37: part 2", INDEX, () -> bench.meanPitch(2));
    }

    private static void restShare() {
        PartcopyistBench none = bench(0);
        check.thrown("promise 38: no bars", ARITHMETIC, () -> none.restShare(0));
        check.thrown("promise 38: the part is looked at first", INDEX, () -> none.restShare(2));
        PartcopyistBench bench = bench(3);
        check.same("promise 38: all", 1.0f, () -> bench.restShare(0));
        bench.addNote(0, 1, 0, 0, 1, 60);
        bench.addNote(0, 1, 1, 0, 1, 60);
        check.same("promise 38: two thirds", 2.0f / 3.0f, () -> bench.restShare(0));
        bench.addNote(0, 0, 0, 0, 1, 60);
        bench.addNote(0, 2, 0, 0, 1, 60);
        check.same("promise 38: none", 0.0f, () -> bench.restShare(0));
        check.same("promise 38: the other part", 1.0f, () -> bench.restShare(1));
        bench.takeOut(2);
        check.same("promise 38: a third", 1.0f / 3.0f, () -> bench.restShare(0));
        check.thrown("promise 38: part -1", INDEX, () -> bench.restShare(-1));
        check.thrown("promise 38: part 2", INDEX, () -> bench.restShare(2));
    }

    private static void isTrue() {
        check.same("promise 39: a new object", true, () -> new PartcopyistBench().isTrue());
        PartcopyistBench bench = bench(14);
        bench.setPage(1);
        bench.setTurn(64);
        check.same("promise 39: without notes", true, bench::isTrue);
        for (int bar = 0; bar < 14; bar++) {
            bench.addNote(bar % 2, bar, 0, bar, 1, 24 + 5 * bar);
            bench.setKey(bar, bar % 13 - 6);
        }
        bench.copyOut(0);
        bench.correct(0, 70);
        bench.stretch(2, 2);
        bench.takeOut(4);
        bench.addNote(0, 0, 1, 0, 1, 60);
        check.same("promise 39: with differences", true, bench::isTrue);
        bench.setPage(60);
        check.same("promise 39: with one page", true, bench::isTrue);
        check.same("promise 39: it changes nothing", 4, () -> bench.differences(0));
    }
}
