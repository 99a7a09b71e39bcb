import java.util.NoSuchElementException;

/** Promises 15 to 18: written, writtenKey, letterOf, accidentalOf. */
public final class SpellingTest {
    private static final Class<IndexOutOfBoundsException> INDEX = IndexOutOfBoundsException.class;
    private static final Class<NoSuchElementException> NONE = NoSuchElementException.class;
    /** The letters and accidentals of the pitches C to B, by key: from the places key - 4 to key + 7. */
    private static final Object[][] SPELLED = {
        {0, "C0 C1 D0 E-1 E0 F0 F1 G0 A-1 A0 B-1 B0"},
        {6, "B1 C1 D0 D1 E0 E1 F1 F2 G1 A0 A1 B0"},
        {-5, "C0 D-1 D0 E-1 F-1 F0 G-1 G0 A-1 B-2 B-1 C-1"},
        {1, "C0 C1 D0 E-1 E0 F0 F1 G0 G1 A0 B-1 B0"},
    };

    private static final Check check = new Check("SpellingTest");

    public static void main(String[] args) {
        written();
        writtenKey();
        spelling();
        spellingFollows();
        noSuchNote();
        check.end();
    }

    private static void written() {
        PartcopyistBench bench = new PartcopyistBench();
        bench.addPart(-12);
        bench.addPart(12);
        bench.addBar(4, 0, false);
        bench.addNote(0, 0, 0, 0, 4, 24);
        bench.addNote(1, 0, 0, 0, 4, 96);
        check.same("promise 15: the lowest", 12, () -> bench.written(0));
        check.same("promise 15: the highest", 108, () -> bench.written(1));
        bench.correct(0, 60);
        check.same("promise 15: corrected", 48, () -> bench.written(0));
    }

    private static void writtenKey() {
        int[][] dues = {{0, 0, 0}, {6, 0, 6}, {-6, 0, 6}, {-5, 0, -5}, {0, 2, 2}, {0, 3, -3}, {0, -3, 3},
            {3, 9, 6}, {-6, 1, 1}, {6, 12, 6}, {-6, -12, 6}, {5, 7, 6}, {0, 1, -5}, {0, -1, 5}, {-1, -5, 0}};
        for (int[] due : dues) {
            PartcopyistBench bench = new PartcopyistBench();
            bench.addBar(4, 0, false);
            bench.addBar(4, due[0], false);
            bench.addPart(0);
            bench.addPart(due[1]);
            check.same("promise 16: key " + due[0] + " shift " + due[1], due[2], () -> bench.writtenKey(1, 1));
        }
        PartcopyistBench bench = new PartcopyistBench();
        bench.addPart(2);
        bench.addBar(4, 0, false);
        bench.setKey(0, 3);
        check.same("promise 16: the key that was set", 5, () -> bench.writtenKey(0, 0));
        check.thrown("promise 16: part 1", INDEX, () -> bench.writtenKey(1, 0));
        check.thrown("promise 16: part -1", INDEX, () -> bench.writtenKey(-1, 0));
        check.thrown("promise 16: bar 1", INDEX, () -> bench.writtenKey(0, 1));
        check.thrown("promise 16: bar -1", INDEX, () -> bench.writtenKey(0, -1));
    }

    private static void spelling() {
        for (Object[] row : SPELLED) {
            int key = (Integer) row[0];
            String[] dues = ((String) row[1]).split(" ");
            PartcopyistBench bench = new PartcopyistBench();
            bench.addPart(0);
            bench.addBar(8, key, false);
            for (int i = 0; i < 12; i++) {
                int note = bench.addNote(0, 0, 0, i, 1, 60 + i);
                check.same("promise 17: key " + key + " pitch " + i, dues[i].charAt(0), () -> bench.letterOf(note));
                check.same("promise 18: key " + key + " pitch " + i, dues[i].substring(1),
                        () -> bench.accidentalOf(note));
            }
            check.same("promise 39: key " + key, true, bench::isTrue);
        }
    }

    private static void spellingFollows() {
        PartcopyistBench bench = new PartcopyistBench();
        bench.addPart(0);
        bench.addPart(2);
        bench.addBar(4, 0, false);
        bench.addBar(4, 4, false);
        bench.addNote(0, 0, 0, 0, 1, 63);
        bench.addNote(0, 1, 0, 0, 1, 63);
        bench.addNote(1, 0, 0, 0, 1, 61);
        check.same("promise 17: in C", 'E', () -> bench.letterOf(0));
        check.same("promise 17: in the key of its bar", 'D', () -> bench.letterOf(1));
        check.same("promise 17: in the written key of its part", 'D', () -> bench.letterOf(2));
        check.same("promise 18: in the written key of its part", 1, () -> bench.accidentalOf(2));
        bench.setKey(0, -6);
        check.same("promise 17: key -6 is written as 6", 'D', () -> bench.letterOf(0));
        check.same("promise 18: key -6 is written as 6", 1, () -> bench.accidentalOf(0));
        bench.correct(0, 24);
        check.same("promise 17: corrected", 'B', () -> bench.letterOf(0));
        check.same("promise 18: corrected", 1, () -> bench.accidentalOf(0));
    }

    private static void noSuchNote() {
        PartcopyistBench bench = new PartcopyistBench();
        bench.addPart(0);
        bench.addBar(4, 0, false);
        bench.addNote(0, 0, 0, 0, 4, 60);
        bench.addNote(0, 0, 0, 4, 4, 60);
        bench.takeOut(0);
        for (int note : new int[] {-1, 0, 2, 120, Integer.MIN_VALUE, Integer.MAX_VALUE}) {
            check.thrown("promise 15: note " + note, NONE, () -> bench.written(note));
            check.thrown("promise 17: note " + note, NONE, () -> bench.letterOf(note));
            check.thrown("promise 18: note " + note, NONE, () -> bench.accidentalOf(note));
        }
    }
}
