import java.util.NoSuchElementException;

/**
 * A bench of a copyist of music: parts, bars and notes of a score, the rests, pages and cues of
 * each part, and the copies to which corrections are carried.
 */
public final class PartcopyistBench {
    private static final int MOST_PARTS = 5;
    private static final int MOST_BARS = 14;
    private static final int MOST_NOTES = 120;
    private static final int MOST_SHIFT = 12;
    private static final int MOST_BEATS = 8;
    private static final int TICKS_OF_A_BEAT = 4;
    private static final int MOST_KEY = 6;
    private static final int VOICES = 2;
    private static final int LOWEST_PITCH = 24;
    private static final int HIGHEST_PITCH = 96;
    private static final int MOST_PAGE_PLACES = 60;
    private static final int MOST_TURN_TICKS = 64;
    private static final int OCTAVE = 12;
    private static final int FIFTH = 7;
    private static final int LETTERS = 7;

    // Rows are filled from 0 on; what was not added is null.
    private final Part[] parts = new Part[MOST_PARTS];
    private final Bar[] bars = new Bar[MOST_BARS];
    private final Note[] notes = new Note[MOST_NOTES];
    private final Blocks blocks = new Blocks();
    private int partCount = 0;
    private int barCount = 0;
    private int noteCount = 0;
    private int pagePlaces = 12;
    private int turnTicks = 4;
    private int cueBars = 2;

    public PartcopyistBench() {
    }

    // ---- Parts, bars, notes

    public int addPart(int shift) throws IllegalArgumentException, IllegalStateException {
        if (shift < -MOST_SHIFT || shift > MOST_SHIFT) {
            throw new IllegalArgumentException("the shift is out of range");
        }
        if (partCount >= parts.length) {
            throw new IllegalStateException("there are as many parts as there can be");
        }
        int number = partCount;
        parts[number] = new Part(shift);
        partCount = number + 1;
        return number;
    }

    public int addBar(int beats, int key, boolean hasMark)
            throws IllegalArgumentException, IllegalStateException {
        if (beats < 1 || beats > MOST_BEATS || !isKey(key)) {
            throw new IllegalArgumentException("the beats or the key are out of range");
        }
        if (barCount >= bars.length) {
            throw new IllegalStateException("there are as many bars as there can be");
        }
        int number = barCount;
        bars[number] = new Bar(beats * TICKS_OF_A_BEAT, key, hasMark);
        barCount = number + 1;
        return number;
    }

    public boolean setMark(int bar, boolean hasMark) throws IndexOutOfBoundsException {
        Bar known = knownBar(bar);
        boolean before = known.hasMark;
        known.hasMark = hasMark;
        return before;
    }

    public int setKey(int bar, int key) throws IndexOutOfBoundsException, IllegalArgumentException {
        Bar known = knownBar(bar);
        if (!isKey(key)) {
            throw new IllegalArgumentException("the key is out of range");
        }
        int before = known.key;
        known.key = key;
        return before;
    }

    public int addNote(int part, int bar, int voice, int tick, int length, int pitch)
            throws IndexOutOfBoundsException, IllegalArgumentException,
            UnsupportedOperationException, IllegalStateException {
        knownPart(part);
        Bar known = knownBar(bar);
        if (voice < 0 || voice >= VOICES || !isPitch(pitch) || !known.holds(tick, length)) {
            throw new IllegalArgumentException("the voice, the pitch or the ticks are out of range");
        }
        Note note = new Note(part, bar, voice, tick, length, pitch);
        if (meetsAnother(note, length)) {
            throw new UnsupportedOperationException("a note of this voice has a tick in common");
        }
        if (noteCount >= notes.length) {
            throw new IllegalStateException("as many notes as there can be have been put in");
        }
        int number = noteCount;
        notes[number] = note;
        noteCount = number + 1;
        return number;
    }

    public int correct(int note, int pitch) throws NoSuchElementException, IllegalArgumentException {
        Note known = knownNote(note);
        if (!isPitch(pitch)) {
            throw new IllegalArgumentException("the pitch is out of range");
        }
        int before = known.pitch;
        known.pitch = pitch;
        known.isTouched = true;
        return before;
    }

    public int stretch(int note, int length)
            throws NoSuchElementException, IllegalArgumentException, UnsupportedOperationException {
        Note known = knownNote(note);
        Bar bar = barOrNull(known.bar);
        if (bar == null || !bar.holds(known.tick, length)) {
            throw new IllegalArgumentException("the note would not be within its bar");
        }
        if (meetsAnother(known, length)) {
            throw new UnsupportedOperationException("a note of this voice would have a tick in common");
        }
        int before = known.length;
        known.length = length;
        known.isTouched = true;
        return before;
    }

    public int takeOut(int note) throws NoSuchElementException {
        Note known = knownNote(note);
        known.isIn = false;
        known.isTouched = true;
        return countOfPart(known.part);
    }

    public int notesIn(int part, int bar) throws IndexOutOfBoundsException {
        knownPart(part);
        knownBar(bar);
        return countInBar(part, bar);
    }

    public int noteAt(int part, int bar, int index)
            throws IndexOutOfBoundsException, NoSuchElementException {
        knownPart(part);
        knownBar(bar);
        return knownNoteInOrder(part, bar, index);
    }

    public int pitchOf(int note) throws NoSuchElementException {
        return knownNote(note).pitch;
    }

    public int lengthOf(int note) throws NoSuchElementException {
        return knownNote(note).length;
    }

    public boolean isDivided(int part, int bar) throws IndexOutOfBoundsException {
        knownPart(part);
        knownBar(bar);
        return hasVoice(part, bar, 0) && hasVoice(part, bar, 1);
    }

    // ---- Written notes

    public int written(int note) throws NoSuchElementException {
        return writtenPitch(knownNote(note));
    }

    public int writtenKey(int part, int bar) throws IndexOutOfBoundsException {
        int shift = knownPart(part).shift;
        int key = knownBar(bar).key;
        return shiftedKey(key, shift);
    }

    public char letterOf(int note) throws NoSuchElementException {
        return letterOfPlace(placeOf(knownNote(note)));
    }

    public int accidentalOf(int note) throws NoSuchElementException {
        return sharpsOfPlace(placeOf(knownNote(note)));
    }

    // ---- Rests, pages, cues

    public int rests(int part) throws IndexOutOfBoundsException {
        knownPart(part);
        makeBlocks(part);
        return blocks.countOfRests();
    }

    public int restFirst(int part, int rest) throws IndexOutOfBoundsException {
        knownPart(part);
        return blocks.firstBarOf(knownRest(part, rest));
    }

    public int restBars(int part, int rest) throws IndexOutOfBoundsException {
        knownPart(part);
        return blocks.barsOf(knownRest(part, rest));
    }

    public int setPage(int places) throws IllegalArgumentException {
        if (places < 1 || places > MOST_PAGE_PLACES) {
            throw new IllegalArgumentException("the places are out of range");
        }
        int before = pagePlaces;
        pagePlaces = places;
        return before;
    }

    public int setTurn(int ticks) throws IllegalArgumentException {
        if (ticks < 0 || ticks > MOST_TURN_TICKS) {
            throw new IllegalArgumentException("the ticks are out of range");
        }
        int before = turnTicks;
        turnTicks = ticks;
        return before;
    }

    public int setCue(int bars) throws IllegalArgumentException {
        if (bars < 1 || bars > MOST_BARS) {
            throw new IllegalArgumentException("the bars are out of range");
        }
        int before = cueBars;
        cueBars = bars;
        return before;
    }

    public int hardTurns(int part) throws IndexOutOfBoundsException {
        knownPart(part);
        makeBlocks(part);
        blocks.makePages();
        return blocks.hardTurnsOfPages();
    }

    public int hardTurnsByTrying(int part) throws IndexOutOfBoundsException {
        knownPart(part);
        makeBlocks(part);
        return Blocks.fewestHardTurns(blocks, 0);
    }

    public int pages(int part) throws IndexOutOfBoundsException {
        knownPart(part);
        makeBlocks(part);
        blocks.makePages();
        return blocks.countOfPages();
    }

    public int pageEnd(int part, int page) throws IndexOutOfBoundsException, NoSuchElementException {
        knownPart(part);
        makeBlocks(part);
        blocks.makePages();
        if (page < 0 || page >= blocks.countOfPages()) {
            throw new NoSuchElementException("there is no such page");
        }
        return blocks.lastBarOf(blocks.lastBlockOfPage(page));
    }

    public int cuePart(int part, int rest)
            throws IndexOutOfBoundsException, UnsupportedOperationException {
        knownPart(part);
        int block = knownRest(part, rest);
        return knownCue(part, block);
    }

    public int cuePitch(int part, int rest, int index)
            throws IndexOutOfBoundsException, UnsupportedOperationException, NoSuchElementException {
        Part resting = knownPart(part);
        int block = knownRest(part, rest);
        int playing = knownCue(part, block);
        int note = knownNoteInOrder(playing, blocks.lastBarOf(block), index);
        return knownNote(note).pitch + resting.shift;
    }

    // ---- Copies and totals

    public int copyOut(int part) throws IndexOutOfBoundsException {
        Part known = knownPart(part);
        known.isCopied = true;
        bringCopyUpToDate(part);
        return countOfPart(part);
    }

    public int carry(int part) throws IndexOutOfBoundsException, IllegalStateException {
        knownCopy(part);
        int before = touchedDifferences(part);
        bringCopyUpToDate(part);
        return before;
    }

    public int differences(int part) throws IndexOutOfBoundsException, IllegalStateException {
        knownCopy(part);
        return touchedDifferences(part);
    }

    public int differencesByComparing(int part)
            throws IndexOutOfBoundsException, IllegalStateException {
        knownCopy(part);
        return comparedDifferences(part);
    }

    public int copied(int note) throws NoSuchElementException, IllegalStateException {
        Note found = noteOrNull(note);
        if (found == null) {
            throw new NoSuchElementException("no such note was put in");
        }
        Part part = partOrNull(found.part);
        if (part == null || !part.isCopied || !found.isInCopy) {
            throw new IllegalStateException("its part was not copied, or the copy does not have it");
        }
        return found.copyPitch + part.shift;
    }

    public long ticks() {
        long sum = 0;
        for (int i = 0; i < notes.length; i++) {
            Note note = notes[i];
            if (note != null && note.isIn) {
                sum += note.length;
            }
        }
        return sum;
    }

    public double meanPitch(int part) throws IndexOutOfBoundsException, ArithmeticException {
        knownPart(part);
        int count = countOfPart(part);
        if (count <= 0) {
            throw new ArithmeticException("the part has no notes");
        }
        return (double) sumOfPitches(part) / (double) count;
    }

    public float restShare(int part) throws IndexOutOfBoundsException, ArithmeticException {
        knownPart(part);
        if (barCount <= 0) {
            throw new ArithmeticException("there are no bars");
        }
        return (float) countOfEmptyBars(part) / (float) barCount;
    }

    public boolean isTrue() {
        for (int part = 0; part < parts.length; part++) {
            if (parts[part] != null && !(turnsAgree(part) && copyAgrees(part))) {
                return false;
            }
        }
        return spellingsSound();
    }

    // ---- What is known of parts, bars and notes

    private Part partOrNull(int part) {
        return part >= 0 && part < parts.length ? parts[part] : null;
    }

    private Bar barOrNull(int bar) {
        return bar >= 0 && bar < bars.length ? bars[bar] : null;
    }

    private Note noteOrNull(int note) {
        return note >= 0 && note < notes.length ? notes[note] : null;
    }

    private Part knownPart(int part) {
        Part known = partOrNull(part);
        if (known == null) {
            throw new IndexOutOfBoundsException("there is no such part");
        }
        return known;
    }

    private Bar knownBar(int bar) {
        Bar known = barOrNull(bar);
        if (known == null) {
            throw new IndexOutOfBoundsException("there is no such bar");
        }
        return known;
    }

    private Note knownNote(int note) {
        Note known = noteOrNull(note);
        if (known == null || !known.isIn) {
            throw new NoSuchElementException("there is no such note");
        }
        return known;
    }

    private void knownCopy(int part) {
        Part known = knownPart(part);
        if (!known.isCopied) {
            throw new IllegalStateException("the part was not copied");
        }
    }

    private static boolean isKey(int key) {
        return key >= -MOST_KEY && key <= MOST_KEY;
    }

    private static boolean isPitch(int pitch) {
        return pitch >= LOWEST_PITCH && pitch <= HIGHEST_PITCH;
    }

    // ---- The notes of a part in a bar

    private boolean meetsAnother(Note note, int length) {
        for (int i = 0; i < notes.length; i++) {
            Note other = notes[i];
            if (other != null && other != note && other.isAt(note.part, note.bar)
                    && other.voice == note.voice && other.sharesTicks(note.tick, length)) {
                return true;
            }
        }
        return false;
    }

    private int countInBar(int part, int bar) {
        int count = 0;
        for (int i = 0; i < notes.length; i++) {
            Note note = notes[i];
            if (note != null && note.isAt(part, bar)) {
                count++;
            }
        }
        return count;
    }

    private boolean hasVoice(int part, int bar, int voice) {
        for (int i = 0; i < notes.length; i++) {
            Note note = notes[i];
            if (note != null && note.isAt(part, bar) && note.voice == voice) {
                return true;
            }
        }
        return false;
    }

    private int knownNoteInOrder(int part, int bar, int index) {
        for (int i = 0; i < notes.length; i++) {
            Note note = notes[i];
            if (note != null && note.isAt(part, bar) && countAhead(note) == index) {
                return i;
            }
        }
        throw new NoSuchElementException("there is no such index");
    }

    private int countAhead(Note note) {
        int count = 0;
        for (int i = 0; i < notes.length; i++) {
            Note other = notes[i];
            if (other != null && other.isAt(note.part, note.bar) && other.comesAheadOf(note)) {
                count++;
            }
        }
        return count;
    }

    // ---- The notes of a part in all bars

    private int countOfPart(int part) {
        int count = 0;
        for (int i = 0; i < notes.length; i++) {
            Note note = notes[i];
            if (note != null && note.isIn && note.part == part) {
                count++;
            }
        }
        return count;
    }

    private int sumOfPitches(int part) {
        int sum = 0;
        for (int i = 0; i < notes.length; i++) {
            Note note = notes[i];
            if (note != null && note.isIn && note.part == part) {
                sum += note.pitch;
            }
        }
        return sum;
    }

    private int countOfEmptyBars(int part) {
        int count = 0;
        for (int bar = 0; bar < barCount; bar++) {
            if (countInBar(part, bar) == 0) {
                count++;
            }
        }
        return count;
    }

    // ---- Spelling

    private int writtenPitch(Note note) {
        Part part = partOrNull(note.part);
        return part == null ? note.pitch : note.pitch + part.shift;
    }

    private static int shiftedKey(int key, int shift) {
        int upward = Math.floorMod(key + FIFTH * shift, OCTAVE);
        return upward > MOST_KEY ? upward - OCTAVE : upward;
    }

    /** The place on the line of fifths by which a note is spelled. */
    private int placeOf(Note note) {
        Part part = partOrNull(note.part);
        Bar bar = barOrNull(note.bar);
        int key = part == null || bar == null ? 0 : shiftedKey(bar.key, part.shift);
        int sound = Math.floorMod(writtenPitch(note), OCTAVE);
        // The 12 places in question have 12 different sounds: if none ahead of the last, it is the last.
        int place = key - 4;
        while (place < key + 7 && Math.floorMod(place * FIFTH, OCTAVE) != sound) {
            place++;
        }
        return place;
    }

    private static char letterOfPlace(int place) {
        switch (Math.floorMod(place + 1, LETTERS)) {
            case 0: return 'F';
            case 1: return 'C';
            case 2: return 'G';
            case 3: return 'D';
            case 4: return 'A';
            case 5: return 'E';
            default: return 'B';
        }
    }

    private static int sharpsOfPlace(int place) {
        return Math.floorDiv(place + 1, LETTERS);
    }

    private static int soundOfLetter(char letter) {
        switch (letter - 'A') {
            case 0: return 9;
            case 1: return 11;
            case 2: return 0;
            case 3: return 2;
            case 4: return 4;
            case 5: return 5;
            default: return 7;
        }
    }

    // ---- Rests, pages, cues of one part

    /** Lays the part out in blocks; the blocks stay valid until the next call of this method. */
    private void makeBlocks(int part) {
        blocks.begin(pagePlaces, turnTicks);
        for (int i = 0; i < bars.length; i++) {
            Bar bar = bars[i];
            if (bar != null) {
                addToBlocks(part, i, bar);
            }
        }
    }

    private void addToBlocks(int part, int number, Bar bar) {
        int count = 0;
        int start = bar.ticks;
        int end = 0;
        for (int i = 0; i < notes.length; i++) {
            Note note = notes[i];
            if (note != null && note.isAt(part, number)) {
                count++;
                start = Math.min(start, note.tick);
                end = Math.max(end, note.tick + note.length);
            }
        }
        if (count > 0) {
            blocks.addBarWithNotes(number, count, start, bar.ticks - end);
        } else {
            blocks.addEmptyBar(number, bar.ticks, bar.hasMark);
        }
    }

    /** Lays the part out in blocks and returns the block that is the long rest of this number. */
    private int knownRest(int part, int rest) {
        makeBlocks(part);
        int block = blocks.blockOfRest(rest);
        if (block < 0) {
            throw new IndexOutOfBoundsException("there is no such long rest");
        }
        return block;
    }

    private int knownCue(int part, int block) {
        int lastBar = blocks.lastBarOf(block);
        boolean isLongEnough = blocks.barsOf(block) >= cueBars;
        boolean isFollowed = lastBar + 1 < barCount;
        int playing = isLongEnough && isFollowed ? fullestOtherPart(part, lastBar) : -1;
        if (playing < 0) {
            throw new UnsupportedOperationException("the long rest has no cue");
        }
        return playing;
    }

    /** The other part with the most notes in the bar, the first of several; -1 if none has any. */
    private int fullestOtherPart(int part, int bar) {
        int fullest = -1;
        int most = 0;
        for (int other = 0; other < partCount; other++) {
            int count = other == part ? 0 : countInBar(other, bar);
            if (count > most) {
                most = count;
                fullest = other;
            }
        }
        return fullest;
    }

    // ---- Copies

    private void bringCopyUpToDate(int part) {
        for (int i = 0; i < notes.length; i++) {
            Note note = notes[i];
            if (note != null && note.part == part) {
                note.enterCopy();
            }
        }
    }

    private int touchedDifferences(int part) {
        int count = 0;
        for (int i = 0; i < notes.length; i++) {
            Note note = notes[i];
            if (note != null && note.part == part && note.isTouched && note.differs()) {
                count++;
            }
        }
        return count;
    }

    private int comparedDifferences(int part) {
        int count = 0;
        for (int i = 0; i < notes.length; i++) {
            Note note = notes[i];
            if (note != null && note.part == part && note.differs()) {
                count++;
            }
        }
        return count;
    }

    // ---- What must be true

    private boolean turnsAgree(int part) {
        makeBlocks(part);
        blocks.makePages();
        return blocks.hardTurnsOfPages() == Blocks.fewestHardTurns(blocks, 0);
    }

    private boolean copyAgrees(int part) {
        Part known = partOrNull(part);
        return known == null || !known.isCopied
                || touchedDifferences(part) == comparedDifferences(part);
    }

    private boolean spellingsSound() {
        for (int i = 0; i < notes.length; i++) {
            Note note = notes[i];
            if (note != null && note.isIn && !spellingSounds(note)) {
                return false;
            }
        }
        return true;
    }

    private boolean spellingSounds(Note note) {
        int place = placeOf(note);
        int sound = soundOfLetter(letterOfPlace(place)) + sharpsOfPlace(place);
        return Math.floorMod(sound - writtenPitch(note), OCTAVE) == 0;
    }

    private static final class Part {
        final int shift;
        boolean isCopied = false;

        Part(int shift) {
            this.shift = shift;
        }
    }

    private static final class Bar {
        final int ticks;
        int key;
        boolean hasMark;

        Bar(int ticks, int key, boolean hasMark) {
            this.ticks = ticks;
            this.key = key;
            this.hasMark = hasMark;
        }

        boolean holds(int tick, int length) {
            // No sum of the two: it could wrap around.
            return tick >= 0 && tick < ticks && length >= 1 && length <= ticks - tick;
        }
    }

    private static final class Note {
        final int part;
        final int bar;
        final int voice;
        final int tick;
        int length;
        int pitch;
        boolean isIn = true;
        boolean isInCopy = false;
        int copyLength = 0;
        int copyPitch = 0;
        // Put in, corrected or taken out since its part was copied or carried.
        boolean isTouched = true;

        Note(int part, int bar, int voice, int tick, int length, int pitch) {
            this.part = part;
            this.bar = bar;
            this.voice = voice;
            this.tick = tick;
            this.length = length;
            this.pitch = pitch;
        }

        boolean isAt(int part, int bar) {
            return isIn && this.part == part && this.bar == bar;
        }

        boolean sharesTicks(int otherTick, int otherLength) {
            return tick < otherTick + otherLength && otherTick < tick + length;
        }

        boolean comesAheadOf(Note other) {
            return tick < other.tick || tick == other.tick && voice < other.voice;
        }

        boolean differs() {
            if (isIn && isInCopy) {
                return pitch != copyPitch || length != copyLength;
            }
            return isIn || isInCopy;
        }

        void enterCopy() {
            isInCopy = isIn;
            copyPitch = pitch;
            copyLength = length;
            isTouched = false;
        }
    }

    /** The blocks of one part in their order, and the best way to put them on pages. */
    private static final class Blocks {
        // One more than there are blocks at most, for the end behind the last block.
        static final int ROOM = MOST_BARS + 1;

        private final int[] firstBars = new int[ROOM];
        private final int[] barCounts = new int[ROOM];
        private final int[] places = new int[ROOM];
        private final int[] restAtStart = new int[ROOM];
        private final int[] restAtEnd = new int[ROOM];
        private final boolean[] isRest = new boolean[ROOM];
        // For the blocks from this one on, made into pages in the best way:
        private final int[] hardFrom = new int[ROOM];
        private final int[] pagesFrom = new int[ROOM];
        private final int[] nextPageFrom = new int[ROOM];
        // From 0 to MOST_BARS, as add takes no more: each index up to count, it included, is within the rows.
        private int count = 0;
        private int pagePlaces = 0;
        private int turnTicks = 0;

        void begin(int pagePlaces, int turnTicks) {
            this.pagePlaces = pagePlaces;
            this.turnTicks = turnTicks;
            count = 0;
        }

        void addBarWithNotes(int bar, int noteCount, int ticksAhead, int ticksBehind) {
            add(bar, noteCount, ticksAhead, ticksBehind, false);
        }

        void addEmptyBar(int bar, int ticks, boolean hasMark) {
            int last = count - 1;
            if (!hasMark && isBlock(last) && isRest[last]) {
                barCounts[last]++;
                restAtStart[last] += ticks;
                restAtEnd[last] += ticks;
            } else {
                add(bar, 1, ticks, ticks, true);
            }
        }

        private void add(int bar, int placeCount, int ticksAhead, int ticksBehind, boolean rests) {
            if (count < 0 || count >= MOST_BARS) {
                return;
            }
            firstBars[count] = bar;
            barCounts[count] = 1;
            places[count] = placeCount;
            restAtStart[count] = ticksAhead;
            restAtEnd[count] = ticksBehind;
            isRest[count] = rests;
            count++;
        }

        private boolean isBlock(int block) {
            return block >= 0 && block < count;
        }

        int firstBarOf(int block) {
            return isBlock(block) ? firstBars[block] : -1;
        }

        int barsOf(int block) {
            return isBlock(block) ? barCounts[block] : 0;
        }

        int lastBarOf(int block) {
            return isBlock(block) ? firstBars[block] + barCounts[block] - 1 : -1;
        }

        int countOfRests() {
            int found = 0;
            for (int block = 0; block < count; block++) {
                if (isRest[block]) {
                    found++;
                }
            }
            return found;
        }

        /** The block that is the long rest of this number; -1 if there is none. */
        int blockOfRest(int rest) {
            int ahead = 0;
            for (int block = 0; block < count; block++) {
                if (isRest[block]) {
                    if (ahead == rest) {
                        return block;
                    }
                    ahead++;
                }
            }
            return -1;
        }

        /** 1 if a turn ahead of this block is not free, 0 if it is or there is no turn. */
        private int hardTurnAhead(int block) {
            if (block < 1 || block >= count) {
                return 0;
            }
            return restAtEnd[block - 1] + restAtStart[block] < turnTicks ? 1 : 0;
        }

        void makePages() {
            // The first way found is taken always, for its turns are fewer than that.
            for (int from = count; from >= 0; from--) {
                hardFrom[from] = from == count ? 0 : Integer.MAX_VALUE;
                pagesFrom[from] = 0;
                nextPageFrom[from] = count;
                makePageFrom(from);
            }
        }

        private void makePageFrom(int from) {
            int taken = 0;
            for (int end = from + 1; end <= count; end++) {
                taken += places[end - 1];
                if (taken > pagePlaces && end > from + 1) {
                    return;
                }
                int hard = hardTurnAhead(end) + hardFrom[end];
                int pageCount = 1 + pagesFrom[end];
                // Of equals, the later end has more blocks on this page.
                if (hard < hardFrom[from] || hard == hardFrom[from] && pageCount <= pagesFrom[from]) {
                    hardFrom[from] = hard;
                    pagesFrom[from] = pageCount;
                    nextPageFrom[from] = end;
                }
            }
        }

        int hardTurnsOfPages() {
            return hardFrom[0];
        }

        int countOfPages() {
            return pagesFrom[0];
        }

        int lastBlockOfPage(int page) {
            int next = 0;
            for (int i = 0; i <= page && i < count; i++) {
                next = isBlock(next) ? nextPageFrom[next] : count;
            }
            return next - 1;
        }

        /** The fewest turns that are not free, of all ways to put the blocks from this one on pages. */
        private static int fewestHardTurns(Blocks blocks, int from) {
            if (blocks == null || from < 0 || from >= blocks.count) {
                return 0;
            }
            int fewest = blocks.count;
            int taken = 0;
            // No way has fewer than none: what is left need not be tried then.
            for (int end = from + 1; end <= blocks.count && fewest > 0; end++) {
                taken += blocks.places[end - 1];
                if (taken > blocks.pagePlaces && end > from + 1) {
                    break;
                }
                int hard = blocks.hardTurnAhead(end) + fewestHardTurns(blocks, end);
                fewest = Math.min(fewest, hard);
            }
            return fewest;
        }
    }
}
