import java.util.NoSuchElementException;

/** Promises 1 to 5: a new object, addPart, addBar, setMark, setKey. */
public final class PartsAndBarsTest {
    private static final Class<IllegalArgumentException> ARGUMENT = IllegalArgumentException.class;
    private static final Class<IllegalStateException> STATE = IllegalStateException.class;
    private static final Class<IndexOutOfBoundsException> INDEX = IndexOutOfBoundsException.class;

    private static final Check check = new Check("PartsAndBarsTest");

    public static void main(String[] args) {
        newObject();
        addPart();
        addBar();
        setMark();
        setKey();
        check.end();
    }

    private static void newObject() {
        PartcopyistBench bench = new PartcopyistBench();
        check.thrown("promise 1: no part", INDEX, () -> bench.rests(0));
        check.thrown("promise 1: no bar", INDEX, () -> bench.setMark(0, true));
        check.thrown("promise 1: no note", NoSuchElementException.class, () -> bench.pitchOf(0));
        check.same("promise 1: no ticks", 0, bench::ticks);
        check.same("promise 1: all is true", true, bench::isTrue);
        check.same("promise 1: the places of a page", 12, () -> bench.setPage(1));
        check.same("promise 1: the ticks of a turn", 4, () -> bench.setTurn(1));
        check.same("promise 1: the bars of a cue", 2, () -> bench.setCue(1));
        check.same("promise 1: the first part", 0, () -> bench.addPart(0));
        check.same("promise 1: the first bar", 0, () -> bench.addBar(1, 0, false));
    }

    private static void addPart() {
        PartcopyistBench bench = new PartcopyistBench();
        check.thrown("promise 2: shift -13", ARGUMENT, () -> bench.addPart(-13));
        check.thrown("promise 2: shift 13", ARGUMENT, () -> bench.addPart(13));
        check.thrown("promise 2: least shift", ARGUMENT, () -> bench.addPart(Integer.MIN_VALUE));
        check.thrown("promise 2: most shift", ARGUMENT, () -> bench.addPart(Integer.MAX_VALUE));
        check.thrown("promise 2: a refused part is none", INDEX, () -> bench.rests(0));
        check.same("promise 2: shift -12", 0, () -> bench.addPart(-12));
        check.same("promise 2: shift 12", 1, () -> bench.addPart(12));
        check.same("promise 2: the third", 2, () -> bench.addPart(0));
        check.same("promise 2: the fourth", 3, () -> bench.addPart(7));
        check.same("promise 2: the fifth", 4, () -> bench.addPart(0));
        check.thrown("promise 2: the sixth", STATE, () -> bench.addPart(0));
        check.thrown("promise 2: the shift is looked at first", ARGUMENT, () -> bench.addPart(13));
        check.same("promise 2: the fifth is there", 0, () -> bench.rests(4));
        check.thrown("promise 2: the sixth is not", INDEX, () -> bench.rests(5));
    }

    private static void addBar() {
        PartcopyistBench bench = new PartcopyistBench();
        check.thrown("promise 3: no beats", ARGUMENT, () -> bench.addBar(0, 0, false));
        check.thrown("promise 3: 9 beats", ARGUMENT, () -> bench.addBar(9, 0, false));
        check.thrown("promise 3: key -7", ARGUMENT, () -> bench.addBar(4, -7, false));
        check.thrown("promise 3: key 7", ARGUMENT, () -> bench.addBar(4, 7, false));
        check.thrown("promise 3: least key", ARGUMENT, () -> bench.addBar(4, Integer.MIN_VALUE, false));
        check.thrown("promise 3: a refused bar is none", INDEX, () -> bench.setMark(0, false));
        check.same("promise 3: least", 0, () -> bench.addBar(1, -6, true));
        check.same("promise 3: most", 1, () -> bench.addBar(8, 6, false));
        check.same("promise 3: the mark", true, () -> bench.setMark(0, true));
        check.same("promise 3: no mark", false, () -> bench.setMark(1, false));
        check.same("promise 3: the key", -6, () -> bench.setKey(0, -6));
        check.same("promise 3: the other key", 6, () -> bench.setKey(1, 6));
        bench.addPart(0);
        check.same("promise 3: 8 beats have 32 ticks", 0, () -> bench.addNote(0, 1, 0, 31, 1, 60));
        check.thrown("promise 3: and no more", ARGUMENT, () -> bench.addNote(0, 1, 1, 32, 1, 60));
        for (int bar = 2; bar < 14; bar++) {
            int number = bar;
            check.same("promise 3: one more", number, () -> bench.addBar(4, 0, false));
        }
        check.thrown("promise 3: the 15th", STATE, () -> bench.addBar(4, 0, false));
        check.thrown("promise 3: the beats are looked at first", ARGUMENT, () -> bench.addBar(9, 0, false));
        check.same("promise 3: the 14th is there", false, () -> bench.setMark(13, false));
        check.thrown("promise 3: the 15th is not", INDEX, () -> bench.setMark(14, false));
    }

    private static void setMark() {
        PartcopyistBench bench = new PartcopyistBench();
        bench.addBar(4, 0, false);
        check.same("promise 4: had none", false, () -> bench.setMark(0, true));
        check.same("promise 4: had one", true, () -> bench.setMark(0, true));
        check.same("promise 4: had it still", true, () -> bench.setMark(0, false));
        check.same("promise 4: has none again", false, () -> bench.setMark(0, false));
        check.thrown("promise 4: bar -1", INDEX, () -> bench.setMark(-1, true));
        check.thrown("promise 4: bar 1", INDEX, () -> bench.setMark(1, true));
        check.thrown("promise 4: bar 14", INDEX, () -> bench.setMark(14, true));
        check.thrown("promise 4: most", INDEX, () -> bench.setMark(Integer.MAX_VALUE, true));
    }

    private static void setKey() {
        PartcopyistBench bench = new PartcopyistBench();
        bench.addBar(4, 3, false);
        check.same("promise 5: the key before", 3, () -> bench.setKey(0, -6));
        check.same("promise 5: the one set", -6, () -> bench.setKey(0, 6));
        check.thrown("promise 5: key 7", ARGUMENT, () -> bench.setKey(0, 7));
        check.thrown("promise 5: key -7", ARGUMENT, () -> bench.setKey(0, -7));
        check.thrown("promise 5: bar -1", INDEX, () -> bench.setKey(-1, 0));
        check.thrown("promise 5: bar 1", INDEX, () -> bench.setKey(1, 0));
        check.thrown("promise 5: the bar is looked at first", INDEX, () -> bench.setKey(1, 7));
        check.same("promise 5: nothing was changed", 6, () -> bench.setKey(0, 6));
    }
}
