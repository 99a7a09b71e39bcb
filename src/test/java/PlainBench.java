import java.util.ArrayList;
import java.util.Comparator;
import java.util.HashMap;
import java.util.List;
import java.util.Map;
import java.util.NoSuchElementException;
import java.util.TreeMap;

/**
 * The document once more, in the plainest form and found by other ways than the program's, so that
 * long runs can be compared with it. Its public methods bear the names of the face.
 */
final class PlainBench {
    private record Bar(int beats, int key, boolean hasMark) {
        int ticks() {
            return 4 * beats;
        }
    }

    private record Note(int number, int part, int bar, int voice, int tick, int length, int pitch) {
    }

    private record Sound(int pitch, int length) {
    }

    private record Rest(int first, int last) {
    }

    /** A row of bars that is one block. */
    private record Block(int first, int last, boolean isRest) {
    }

    private record Paging(int hard, List<Integer> sizes) {
    }

    private final List<Integer> shifts = new ArrayList<>();
    private final List<Bar> bars = new ArrayList<>();
    private final Map<Integer, Note> score = new TreeMap<>();
    private final Map<Integer, Integer> partOfNote = new HashMap<>();
    private final Map<Integer, Map<Integer, Sound>> copies = new HashMap<>();
    private int page = 12;
    private int turn = 4;
    private int cue = 2;

    public int addPart(int shift) {
        refuseUnless(Math.abs((long) shift) <= 12, new IllegalArgumentException());
        refuseUnless(shifts.size() < 5, new IllegalStateException());
        shifts.add(shift);
        return shifts.size() - 1;
    }

    public int addBar(int beats, int key, boolean hasMark) {
        refuseUnless(beats >= 1 && beats <= 8 && Math.abs((long) key) <= 6, new IllegalArgumentException());
        refuseUnless(bars.size() < 14, new IllegalStateException());
        bars.add(new Bar(beats, key, hasMark));
        return bars.size() - 1;
    }

    public boolean setMark(int bar, boolean hasMark) {
        needBar(bar);
        Bar old = bars.get(bar);
        bars.set(bar, new Bar(old.beats, old.key, hasMark));
        return old.hasMark;
    }

    public int setKey(int bar, int key) {
        needBar(bar);
        refuseUnless(Math.abs((long) key) <= 6, new IllegalArgumentException());
        Bar old = bars.get(bar);
        bars.set(bar, new Bar(old.beats, key, old.hasMark));
        return old.key;
    }

    public int addNote(int part, int bar, int voice, int tick, int length, int pitch) {
        needPart(part);
        needBar(bar);
        refuseUnless((voice == 0 || voice == 1) && isPitch(pitch) && fits(bar, tick, length),
                new IllegalArgumentException());
        int number = partOfNote.size();
        Note note = new Note(number, part, bar, voice, tick, length, pitch);
        refuseUnless(isFree(note), new UnsupportedOperationException());
        refuseUnless(number < 120, new IllegalStateException());
        partOfNote.put(number, part);
        score.put(number, note);
        return number;
    }

    public int correct(int note, int pitch) {
        Note old = need(note);
        refuseUnless(isPitch(pitch), new IllegalArgumentException());
        score.put(note, new Note(note, old.part, old.bar, old.voice, old.tick, old.length, pitch));
        return old.pitch;
    }

    public int stretch(int note, int length) {
        Note old = need(note);
        refuseUnless(fits(old.bar, old.tick, length), new IllegalArgumentException());
        Note longer = new Note(note, old.part, old.bar, old.voice, old.tick, length, old.pitch);
        refuseUnless(isFree(longer), new UnsupportedOperationException());
        score.put(note, longer);
        return old.length;
    }

    public int takeOut(int note) {
        Note old = need(note);
        score.remove(note);
        return ofPart(old.part).size();
    }

    public int notesIn(int part, int bar) {
        needPart(part);
        needBar(bar);
        return inBar(part, bar).size();
    }

    public int noteAt(int part, int bar, int index) {
        needPart(part);
        needBar(bar);
        return inOrder(part, bar, index).number;
    }

    public int pitchOf(int note) {
        return need(note).pitch;
    }

    public int lengthOf(int note) {
        return need(note).length;
    }

    public boolean isDivided(int part, int bar) {
        needPart(part);
        needBar(bar);
        return inBar(part, bar).stream().mapToInt(Note::voice).distinct().count() == 2;
    }

    public int written(int note) {
        Note known = need(note);
        return known.pitch + shifts.get(known.part);
    }

    public int writtenKey(int part, int bar) {
        needPart(part);
        needBar(bar);
        int key = bars.get(bar).key + 7 * shifts.get(part);
        while (key < -5) {
            key += 12;
        }
        while (key > 6) {
            key -= 12;
        }
        return key;
    }

    public char letterOf(int note) {
        int letter = 0;
        int place = placeOf(need(note));
        for (int i = -1; i < place; i++) {
            letter = (letter + 1) % 7;
        }
        for (int i = -1; i > place; i--) {
            letter = (letter + 6) % 7;
        }
        return "FCGDAEB".charAt(letter);
    }

    public int accidentalOf(int note) {
        int place = placeOf(need(note));
        int sharps = 0;
        for (; place > 5; place -= 7) {
            sharps++;
        }
        for (; place < -1; place += 7) {
            sharps--;
        }
        return sharps;
    }

    public int rests(int part) {
        needPart(part);
        return restsOf(part).size();
    }

    public int restFirst(int part, int rest) {
        return needRest(part, rest).first;
    }

    public int restBars(int part, int rest) {
        Rest known = needRest(part, rest);
        return known.last - known.first + 1;
    }

    public int setPage(int places) {
        refuseUnless(places >= 1 && places <= 60, new IllegalArgumentException());
        int before = page;
        page = places;
        return before;
    }

    public int setTurn(int ticks) {
        refuseUnless(ticks >= 0 && ticks <= 64, new IllegalArgumentException());
        int before = turn;
        turn = ticks;
        return before;
    }

    public int setCue(int count) {
        refuseUnless(count >= 1 && count <= 14, new IllegalArgumentException());
        int before = cue;
        cue = count;
        return before;
    }

    public int hardTurns(int part) {
        needPart(part);
        return bestPaging(part).hard;
    }

    public int hardTurnsByTrying(int part) {
        return hardTurns(part);
    }

    public int pages(int part) {
        needPart(part);
        return bestPaging(part).sizes.size();
    }

    public int pageEnd(int part, int number) {
        needPart(part);
        List<Integer> sizes = bestPaging(part).sizes;
        refuseUnless(number >= 0 && number < sizes.size(), new NoSuchElementException());
        int blocks = 0;
        for (int i = 0; i <= number; i++) {
            blocks += sizes.get(i);
        }
        return blocksOf(part).get(blocks - 1).last;
    }

    public int cuePart(int part, int rest) {
        Rest known = needRest(part, rest);
        List<Integer> others = new ArrayList<>();
        for (int other = 0; other < shifts.size(); other++) {
            if (other != part && !inBar(other, known.last).isEmpty()) {
                others.add(other);
            }
        }
        boolean isLong = known.last - known.first + 1 >= cue;
        refuseUnless(isLong && known.last < bars.size() - 1 && !others.isEmpty(),
                new UnsupportedOperationException());
        others.sort(Comparator.comparing((Integer other) -> -inBar(other, known.last).size())
                .thenComparing(other -> other));
        return others.get(0);
    }

    public int cuePitch(int part, int rest, int index) {
        int playing = cuePart(part, rest);
        return inOrder(playing, needRest(part, rest).last, index).pitch + shifts.get(part);
    }

    public int copyOut(int part) {
        needPart(part);
        Map<Integer, Sound> copy = soundsOf(part);
        copies.put(part, copy);
        return copy.size();
    }

    public int carry(int part) {
        int before = differences(part);
        copyOut(part);
        return before;
    }

    public int differences(int part) {
        needPart(part);
        refuseUnless(copies.containsKey(part), new IllegalStateException());
        Map<Integer, Sound> copy = copies.get(part);
        Map<Integer, Sound> now = soundsOf(part);
        int count = 0;
        for (int note = 0; note < 120; note++) {
            Sound there = copy.get(note);
            Sound here = now.get(note);
            if ((there != null || here != null) && (there == null || !there.equals(here))) {
                count++;
            }
        }
        return count;
    }

    public int differencesByComparing(int part) {
        return differences(part);
    }

    public int copied(int note) {
        refuseUnless(partOfNote.containsKey(note), new NoSuchElementException());
        int part = partOfNote.get(note);
        refuseUnless(copies.containsKey(part) && copies.get(part).containsKey(note),
                new IllegalStateException());
        return copies.get(part).get(note).pitch + shifts.get(part);
    }

    public long ticks() {
        return score.values().stream().mapToLong(Note::length).sum();
    }

    public double meanPitch(int part) {
        needPart(part);
        List<Note> all = ofPart(part);
        refuseUnless(!all.isEmpty(), new ArithmeticException());
        return (double) all.stream().mapToInt(Note::pitch).sum() / (double) all.size();
    }

    public float restShare(int part) {
        needPart(part);
        refuseUnless(!bars.isEmpty(), new ArithmeticException());
        int empty = 0;
        for (int bar = 0; bar < bars.size(); bar++) {
            empty += inBar(part, bar).isEmpty() ? 1 : 0;
        }
        return (float) empty / (float) bars.size();
    }

    public boolean isTrue() {
        return true;
    }

    private static void refuseUnless(boolean isRight, RuntimeException refusal) {
        if (!isRight) {
            throw refusal;
        }
    }

    private void needPart(int part) {
        refuseUnless(part >= 0 && part < shifts.size(), new IndexOutOfBoundsException());
    }

    private void needBar(int bar) {
        refuseUnless(bar >= 0 && bar < bars.size(), new IndexOutOfBoundsException());
    }

    private Note need(int note) {
        refuseUnless(score.containsKey(note), new NoSuchElementException());
        return score.get(note);
    }

    private Rest needRest(int part, int rest) {
        needPart(part);
        List<Rest> all = restsOf(part);
        refuseUnless(rest >= 0 && rest < all.size(), new IndexOutOfBoundsException());
        return all.get(rest);
    }

    private static boolean isPitch(int pitch) {
        return pitch >= 24 && pitch <= 96;
    }

    private boolean fits(int bar, int tick, int length) {
        return tick >= 0 && length >= 1 && (long) tick + length <= bars.get(bar).ticks();
    }

    private boolean isFree(Note wanted) {
        for (Note other : inBar(wanted.part, wanted.bar)) {
            for (int tick = wanted.tick; tick < wanted.tick + wanted.length; tick++) {
                if (other.number != wanted.number && other.voice == wanted.voice && sounds(other, tick)) {
                    return false;
                }
            }
        }
        return true;
    }

    private static boolean sounds(Note note, int tick) {
        return tick >= note.tick && tick < note.tick + note.length;
    }

    private List<Note> ofPart(int part) {
        return score.values().stream().filter(n -> n.part == part).toList();
    }

    private List<Note> inBar(int part, int bar) {
        return score.values().stream().filter(n -> n.part == part && n.bar == bar)
                .sorted(Comparator.comparingInt(Note::tick).thenComparingInt(Note::voice)).toList();
    }

    private Note inOrder(int part, int bar, int index) {
        List<Note> all = inBar(part, bar);
        refuseUnless(index >= 0 && index < all.size(), new NoSuchElementException());
        return all.get(index);
    }

    private Map<Integer, Sound> soundsOf(int part) {
        Map<Integer, Sound> sounds = new HashMap<>();
        for (Note note : ofPart(part)) {
            sounds.put(note.number, new Sound(note.pitch, note.length));
        }
        return sounds;
    }

    private int placeOf(Note note) {
        int key = writtenKey(note.part, note.bar);
        List<Integer> fitting = new ArrayList<>();
        for (int place = key - 4; place <= key + 7; place++) {
            if (((place * 7) % 12 + 12) % 12 == written(note.number) % 12) {
                fitting.add(place);
            }
        }
        if (fitting.size() != 1) {
            throw new AssertionError("places " + fitting);
        }
        return fitting.get(0);
    }

    private boolean isRest(int part, int first, int last) {
        if (first < 0 || last >= bars.size()) {
            return false;
        }
        for (int bar = first; bar <= last; bar++) {
            if (!inBar(part, bar).isEmpty() || bar > first && bars.get(bar).hasMark) {
                return false;
            }
        }
        return true;
    }

    private List<Rest> restsOf(int part) {
        List<Rest> all = new ArrayList<>();
        for (int first = 0; first < bars.size(); first++) {
            for (int last = first; last < bars.size(); last++) {
                if (isRest(part, first, last) && !isRest(part, first - 1, last)
                        && !isRest(part, first, last + 1)) {
                    all.add(new Rest(first, last));
                }
            }
        }
        return all;
    }

    private List<Block> blocksOf(int part) {
        List<Block> all = new ArrayList<>();
        for (Rest rest : restsOf(part)) {
            all.add(new Block(rest.first, rest.last, true));
        }
        for (int bar = 0; bar < bars.size(); bar++) {
            if (!inBar(part, bar).isEmpty()) {
                all.add(new Block(bar, bar, false));
            }
        }
        all.sort(Comparator.comparingInt(Block::first));
        return all;
    }

    private int placesOf(int part, Block block) {
        return block.isRest ? 1 : inBar(part, block.first).size();
    }

    /** The ticks without notes, counted from the end of the block if it is to be backward. */
    private int freeTicks(int part, Block block, boolean backward) {
        List<Boolean> sounding = new ArrayList<>();
        for (int bar = block.first; bar <= block.last; bar++) {
            for (int tick = 0; tick < bars.get(bar).ticks(); tick++) {
                int at = tick;
                sounding.add(inBar(part, bar).stream().anyMatch(n -> sounds(n, at)));
            }
        }
        if (backward) {
            java.util.Collections.reverse(sounding);
        }
        return sounding.contains(true) ? sounding.indexOf(true) : sounding.size();
    }

    private Paging bestPaging(int part) {
        List<Block> blocks = blocksOf(part);
        if (blocks.isEmpty()) {
            return new Paging(0, List.of());
        }
        int[] places = new int[blocks.size()];
        boolean[] isHard = new boolean[blocks.size()];
        for (int i = 0; i < places.length; i++) {
            places[i] = placesOf(part, blocks.get(i));
            isHard[i] = i > 0 && freeTicks(part, blocks.get(i - 1), true)
                    + freeTicks(part, blocks.get(i), false) < turn;
        }
        Paging best = null;
        for (int way = 0; way < 1 << blocks.size() - 1; way++) {
            Paging tried = paging(way, places, isHard);
            if (tried != null && (best == null || isBetter(tried, best))) {
                best = tried;
            }
        }
        return best;
    }

    /** The way that turns behind block i where bit i is set; null if a page takes too much. */
    private Paging paging(int way, int[] places, boolean[] isHard) {
        List<Integer> sizes = new ArrayList<>();
        int hard = 0;
        int size = 0;
        int taken = 0;
        for (int i = 0; i < places.length; i++) {
            size++;
            taken += places[i];
            if (size > 1 && taken > page) {
                return null;
            }
            boolean isLast = i == places.length - 1;
            if (isLast || (way >> i & 1) == 1) {
                sizes.add(size);
                hard += !isLast && isHard[i + 1] ? 1 : 0;
                size = 0;
                taken = 0;
            }
        }
        return new Paging(hard, sizes);
    }

    private static boolean isBetter(Paging a, Paging b) {
        if (a.hard != b.hard) {
            return a.hard < b.hard;
        }
        if (a.sizes.size() != b.sizes.size()) {
            return a.sizes.size() < b.sizes.size();
        }
        for (int i = 0; i < a.sizes.size(); i++) {
            if (!a.sizes.get(i).equals(b.sizes.get(i))) {
                return a.sizes.get(i) > b.sizes.get(i);
            }
        }
        return false;
    }
}
