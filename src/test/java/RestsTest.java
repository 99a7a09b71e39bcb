/** Promises 19 to 21: rests, restFirst, restBars. */
public final class RestsTest {
    private static final Class<IndexOutOfBoundsException> INDEX = IndexOutOfBoundsException.class;

    private static final Check check = new Check("RestsTest");

    public static void main(String[] args) {
        marksAndNotes();
        changes();
        noSuchRest();
        check.end();
    }

    /** Looks at all rests of a part, told as first bar and number of bars. */
    private static void same(String what, String due, PartcopyistBench bench, int part) {
        check.same(what, due, () -> {
            StringBuilder told = new StringBuilder();
            for (int rest = 0; rest < bench.rests(part); rest++) {
                told.append(bench.restFirst(part, rest)).append('+').append(bench.restBars(part, rest)).append(' ');
            }
            return told.toString().trim();
        });
    }

    private static void marksAndNotes() {
        PartcopyistBench bench = new PartcopyistBench();
        bench.addPart(0);
        bench.addPart(0);
        same("promise 19: without bars", "", bench, 0);
        boolean[] marks = {true, false, false, true, true, false, false, true, false};
        for (boolean mark : marks) {
            bench.addBar(4, 0, mark);
        }
        same("promise 20: broken at marks", "0+3 3+1 4+3 7+2", bench, 0);
        bench.addNote(0, 1, 0, 0, 4, 60);
        same("promise 20: broken at notes", "0+1 2+1 3+1 4+3 7+2", bench, 0);
        bench.addNote(0, 7, 1, 15, 1, 60);
        same("promise 20: a note where a mark is", "0+1 2+1 3+1 4+3 8+1", bench, 0);
        same("promise 20: the other part", "0+3 3+1 4+3 7+2", bench, 1);
    }

    private static void changes() {
        PartcopyistBench bench = new PartcopyistBench();
        bench.addPart(0);
        for (int bar = 0; bar < 14; bar++) {
            bench.addBar(1 + bar % 8, bar % 7 - 3, false);
        }
        same("promise 21: keys and beats do not break", "0+14", bench, 0);
        bench.setMark(13, true);
        same("promise 21: a mark at the last bar", "0+13 13+1", bench, 0);
        bench.setMark(13, false);
        bench.addNote(0, 6, 0, 0, 1, 60);
        same("promise 21: a note", "0+6 7+7", bench, 0);
        bench.takeOut(0);
        same("promise 21: taken out", "0+14", bench, 0);
        for (int bar = 0; bar < 14; bar++) {
            bench.addNote(0, bar, 0, 0, 1, 60);
        }
        check.same("promise 19: no rests", 0, () -> bench.rests(0));
    }

    private static void noSuchRest() {
        PartcopyistBench bench = new PartcopyistBench();
        check.thrown("promise 19: without parts", INDEX, () -> bench.rests(0));
        bench.addPart(0);
        check.thrown("promise 20: without bars", INDEX, () -> bench.restFirst(0, 0));
        check.thrown("promise 21: without bars", INDEX, () -> bench.restBars(0, 0));
        bench.addBar(4, 0, false);
        for (int part : new int[] {-1, 1, 5, Integer.MIN_VALUE, Integer.MAX_VALUE}) {
            check.thrown("promise 19: part " + part, INDEX, () -> bench.rests(part));
            check.thrown("promise 20: part " + part, INDEX, () -> bench.restFirst(part, 0));
            check.thrown("promise 21: part " + part, INDEX, () -> bench.restBars(part, 0));
        }
        for (int rest : new int[] {-1, 1, 14, Integer.MIN_VALUE, Integer.MAX_VALUE}) {
            check.thrown("promise 20: rest " + rest, INDEX, () -> bench.restFirst(0, rest));
            check.thrown("promise 21: rest " + rest, INDEX, () -> bench.restBars(0, rest));
        }
    }
}
