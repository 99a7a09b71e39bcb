import java.util.ArrayList;
import java.util.List;

/** Promises 2 to 35: a call that throws changes nothing, and the calls that ask change nothing. */
public final class NothingChangedTest {
    private static final int LEAST = Integer.MIN_VALUE;
    private static final int MOST = Integer.MAX_VALUE;

    private static final Check check = new Check("NothingChangedTest");

    public static void main(String[] args) {
        String due = snapshot(bench(false));
        check.same("the same calls", due, () -> snapshot(bench(false)));
        for (int i = 0; i < refusals(bench(false)).size(); i++) {
            PartcopyistBench bench = bench(false);
            String refusal = Check.told(refusals(bench).get(i));
            check.same("refusal " + i, true, () -> refusal.startsWith("throws"));
            check.same("behind refusal " + i, due, () -> snapshot(bench));
        }
        PartcopyistBench asked = bench(false);
        ask(asked, new ArrayList<>());
        check.same("behind questions", due, () -> snapshot(asked));
        fullBench();
        check.end();
    }

    private static void fullBench() {
        String due = snapshot(bench(true));
        PartcopyistBench bench = bench(true);
        check.thrown("the sixth part", IllegalStateException.class, () -> bench.addPart(1));
        check.thrown("the 15th bar", IllegalStateException.class, () -> bench.addBar(1, 1, true));
        check.thrown("the 121st note", IllegalStateException.class, () -> bench.addNote(4, 13, 0, 0, 1, 24));
        check.same("a full bench", due, () -> snapshot(bench));
    }

    /** Three parts, the first one copied, and five bars; up to all that there can be if it is to be full. */
    private static PartcopyistBench bench(boolean isFull) {
        PartcopyistBench bench = new PartcopyistBench();
        bench.addPart(2);
        bench.addPart(-3);
        bench.addPart(0);
        for (int bar = 0; bar < 5; bar++) {
            bench.addBar(4, bar - 2, bar == 3);
        }
        bench.addNote(0, 0, 0, 4, 4, 60);
        bench.addNote(0, 0, 0, 12, 2, 62);
        bench.addNote(0, 4, 1, 0, 4, 64);
        bench.addNote(1, 2, 0, 0, 4, 65);
        bench.addNote(0, 0, 1, 0, 16, 67);
        bench.takeOut(4);
        bench.copyOut(0);
        bench.correct(1, 61);
        bench.addNote(0, 3, 0, 0, 1, 69);
        bench.setPage(3);
        bench.setTurn(9);
        if (isFull) {
            bench.addPart(0);
            bench.addPart(0);
            for (int bar = 5; bar < 14; bar++) {
                bench.addBar(8, 0, false);
            }
            for (int note = 6; note < 120; note++) {
                bench.addNote(3, 5 + note % 9, 1, note / 9, 1, 60);
            }
        }
        return bench;
    }

    private static List<Check.Call> refusals(PartcopyistBench bench) {
        List<Check.Call> calls = new ArrayList<>(List.of(
                () -> bench.addPart(13), () -> bench.addBar(9, 0, true), () -> bench.addBar(4, 7, true),
                () -> bench.setMark(5, true), () -> bench.setMark(-1, true),
                () -> bench.setKey(5, 0), () -> bench.setKey(0, 7),
                () -> bench.correct(4, 60), () -> bench.correct(6, 60), () -> bench.correct(0, 97),
                () -> bench.takeOut(4), () -> bench.takeOut(6), () -> bench.takeOut(-1),
                () -> bench.setPage(0), () -> bench.setPage(61), () -> bench.setTurn(-1),
                () -> bench.setTurn(65), () -> bench.setCue(0), () -> bench.setCue(15),
                () -> bench.copyOut(3), () -> bench.copyOut(-1), () -> bench.carry(3), () -> bench.carry(1)));
        calls.addAll(List.of(
                () -> bench.addNote(3, 0, 0, 0, 1, 60), () -> bench.addNote(0, 5, 0, 0, 1, 60),
                () -> bench.addNote(0, 0, 2, 0, 1, 60), () -> bench.addNote(0, 0, 0, 0, 1, 97),
                () -> bench.addNote(0, 0, 0, 15, 2, 60), () -> bench.addNote(0, 0, 0, MOST, MOST, 60),
                () -> bench.addNote(0, 0, 0, LEAST, LEAST, 60), () -> bench.addNote(0, 0, 0, 0, 5, 60),
                () -> bench.stretch(0, 0), () -> bench.stretch(0, 13), () -> bench.stretch(0, 9),
                () -> bench.stretch(4, 1), () -> bench.stretch(0, MOST), () -> bench.stretch(6, 1),
                () -> bench.meanPitch(2), () -> bench.meanPitch(3), () -> bench.restShare(3),
                () -> bench.cuePart(2, 1), () -> bench.cuePitch(2, 0, 1), () -> bench.pageEnd(0, 9),
                () -> bench.noteAt(0, 0, 2), () -> bench.copied(4), () -> bench.copied(3)));
        return calls;
    }

    /** All answers, and at the end those that tell what was set before. */
    private static String snapshot(PartcopyistBench bench) {
        List<String> told = new ArrayList<>();
        ask(bench, told);
        told.add(Check.told(() -> bench.setPage(1)));
        told.add(Check.told(() -> bench.setTurn(1)));
        told.add(Check.told(() -> bench.setCue(1)));
        for (int bar : new int[] {0, 3, 4}) {
            told.add(Check.told(() -> bench.setMark(bar, false)));
            told.add(Check.told(() -> bench.setKey(bar, 0)));
        }
        told.add(Check.told(() -> bench.carry(0)));
        told.add(Check.told(() -> bench.addNote(0, 0, 0, 0, 1, 60)));
        told.add(Check.told(() -> bench.addBar(4, 0, false)));
        told.add(Check.told(() -> bench.addPart(0)));
        return String.join(" ", told);
    }

    private static void ask(PartcopyistBench bench, List<String> told) {
        for (int n = 0; n < 4; n++) {
            int part = n;
            askPart(bench, part, told);
            for (int bar : new int[] {0, 2, 4}) {
                told.add(Check.told(() -> bench.notesIn(part, bar)));
                told.add(Check.told(() -> bench.noteAt(part, bar, 0)));
                told.add(Check.told(() -> bench.isDivided(part, bar)));
                told.add(Check.told(() -> bench.writtenKey(part, bar)));
            }
        }
        for (int n = 0; n < 7; n++) {
            int note = n;
            told.add(Check.told(() -> bench.pitchOf(note)));
            told.add(Check.told(() -> bench.lengthOf(note)));
            told.add(Check.told(() -> bench.written(note)));
            told.add(Check.told(() -> bench.letterOf(note)));
            told.add(Check.told(() -> bench.accidentalOf(note)));
            told.add(Check.told(() -> bench.copied(note)));
        }
        told.add(Check.told(bench::ticks));
        told.add(Check.told(bench::isTrue));
    }

    private static void askPart(PartcopyistBench bench, int part, List<String> told) {
        told.add(Check.told(() -> bench.rests(part)));
        told.add(Check.told(() -> bench.restFirst(part, 0)));
        told.add(Check.told(() -> bench.restBars(part, 0)));
        told.add(Check.told(() -> bench.cuePart(part, 0)));
        told.add(Check.told(() -> bench.cuePitch(part, 0, 0)));
        told.add(Check.told(() -> bench.hardTurns(part)));
        told.add(Check.told(() -> bench.hardTurnsByTrying(part)));
        told.add(Check.told(() -> bench.pages(part)));
        told.add(Check.told(() -> bench.pageEnd(part, 0)));
        told.add(Check.told(() -> bench.differences(part)));
        told.add(Check.told(() -> bench.differencesByComparing(part)));
        told.add(Check.told(() -> bench.meanPitch(part)));
        told.add(Check.told(() -> bench.restShare(part)));
    }
}
