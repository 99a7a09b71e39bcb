/** 'What it is', and 'Terms' up to spelling: one test or more for each sentence that names a boundary case. */
final class TermsOfNotes {
    private TermsOfNotes() {
    }

    @Sentence("What it is: An object is used for at most 512 calls after it has been made; what later calls answer"
            + " is free.")
    static void theLastCall(Run run) {
        run.score(1, 1);
        run.does("addNote", 0, 0, 0, 0, 1, 24);
        for (int call = 4; call < 512; call++) {
            run.due(24 + (call - 4) % 73, "correct", 0, 24 + (call - 3) % 73);
        }
        run.due(24 + 508 % 73, "pitchOf", 0);
    }

    @Sentence("Terms: Bars, notes, marks and corrections come by calls; parts, turns and cues are asked.")
    static void questionsChangeNothing(Run run) {
        run.questionsChangeNothing();
        run.small();
        run.questionsChangeNothing();
    }

    @Sentence("Terms: At most 5 parts exist, numbered from 0; a part has a shift from -12 to 12.")
    static void parts(Run run) {
        run.outside(-12, 12, Run.ARGUMENT, "addPart", Run.HERE);
        run.due(0, "addPart", -12);
        run.due(1, "addPart", 12);
        run.due(2, "addPart", -11);
        run.due(3, "addPart", 11);
        run.outside(-12, 12, Run.ARGUMENT, "addPart", Run.HERE);
        run.due(4, "addPart", 0);
        run.refused(Run.STATE, "addPart", 0);
        run.due(0, "rests", 4);
        run.refused(Run.INDEX, "rests", 5);
    }

    @Sentence("Terms: At most 14 bars exist, numbered from 0; a bar has 1 to 8 beats of 4 ticks each, a key from -6"
            + " to 6, and perhaps a mark at its beginning.")
    static void bars(Run run) {
        for (int bar = 0; bar < 14; bar++) {
            run.outside(1, 8, Run.ARGUMENT, "addBar", Run.HERE, 0, true);
            run.outside(-6, 6, Run.ARGUMENT, "addBar", 4, Run.HERE, true);
            run.due(bar, "addBar", 1 + bar % 8, bar % 13 - 6, bar % 2 == 0);
        }
        run.refused(Run.STATE, "addBar", 4, 0, true);
        run.due(false, "setMark", 13, true);
        run.refused(Run.INDEX, "setMark", 14, true);
    }

    @Sentence("Terms: At most 14 bars exist, numbered from 0; a bar has 1 to 8 beats of 4 ticks each, a key from -6"
            + " to 6, and perhaps a mark at its beginning.")
    static void ticksOfBars(Run run) {
        run.score(1, 0);
        for (int beats = 1; beats <= 8; beats++) {
            int bar = beats - 1;
            run.due(bar, "addBar", beats, 0, false);
            run.refused(Run.ARGUMENT, "addNote", 0, bar, 0, 4 * beats, 1, 60);
            run.due(bar, "addNote", 0, bar, 0, 4 * beats - 1, 1, 60);
        }
    }

    @Sentence("Terms: At most 14 bars exist, numbered from 0; a bar has 1 to 8 beats of 4 ticks each, a key from -6"
            + " to 6, and perhaps a mark at its beginning.")
    static void keysAndMarksOfBars(Run run) {
        run.does("addBar", 1, -6, true);
        run.does("addBar", 8, 6, false);
        run.due(-6, "setKey", 0, 6);
        run.due(6, "setKey", 1, -6);
        run.due(6, "setKey", 0, 0);
        run.due(-6, "setKey", 1, 0);
        run.due(true, "setMark", 0, false);
        run.due(false, "setMark", 1, true);
        run.due(false, "setMark", 0, false);
        run.due(true, "setMark", 1, true);
    }

    @Sentence("Terms: At most 120 notes are put in, numbered from 0.")
    static void notes(Run run) {
        run.score(1, 4);
        for (int i = 0; i < 120; i++) {
            run.due(i, "addNote", 0, i / 32, i / 16 % 2, i % 16, 1, 60);
        }
        run.refused(Run.STATE, "addNote", 0, 3, 1, 15, 1, 60);
        run.due(60, "pitchOf", 119);
        run.refused(Run.NONE, "pitchOf", 120);
    }

    @Sentence("Terms: At most 120 notes are put in, numbered from 0.")
    static void notesThatWereTakenOutCount(Run run) {
        run.score(1, 1);
        for (int i = 0; i < 120; i++) {
            run.due(i, "addNote", 0, 0, 0, 0, 16, 60);
            run.due(0, "takeOut", i);
        }
        run.refused(Run.STATE, "addNote", 0, 0, 0, 0, 16, 60);
        run.due(0L, "ticks");
    }

    private static final String A_NOTE = "Terms: A note belongs to a part, a bar and a voice, which is 0 or 1; it has a"
            + " first tick, counted from 0 in its bar, a length in ticks, with which it does not go beyond its bar, and"
            + " a pitch from 24 to 96, which is how it sounds.";

    @Sentence(A_NOTE)
    static void partAndBarOfANote(Run run) {
        run.score(5, 14);
        run.outside(0, 4, Run.INDEX, "addNote", Run.HERE, 0, 0, 0, 1, 60);
        run.outside(0, 13, Run.INDEX, "addNote", 0, Run.HERE, 0, 0, 1, 60);
        run.due(0, "addNote", 0, 13, 0, 0, 1, 60);
        run.due(1, "addNote", 4, 0, 0, 0, 1, 60);
        run.due(1, "notesIn", 0, 13);
        run.due(1, "notesIn", 4, 0);
        run.due(0, "notesIn", 0, 0);
        run.due(0, "notesIn", 4, 13);
    }

    @Sentence(A_NOTE)
    static void voiceOfANote(Run run) {
        run.score(1, 1);
        run.outside(0, 1, Run.ARGUMENT, "addNote", 0, 0, Run.HERE, 0, 1, 60);
        run.due(0, "addNote", 0, 0, 0, 0, 1, 60);
        run.due(1, "addNote", 0, 0, 1, 0, 1, 60);
        run.outside(0, 1, Run.ARGUMENT, "addNote", 0, 0, Run.HERE, 1, 1, 60);
    }

    @Sentence(A_NOTE)
    static void firstTickOfANote(Run run) {
        run.score(1, 0);
        run.does("addBar", 1, 0, false);
        run.does("addBar", 8, 0, false);
        run.outside(0, 3, Run.ARGUMENT, "addNote", 0, 0, 0, Run.HERE, 1, 60);
        run.outside(0, 31, Run.ARGUMENT, "addNote", 0, 1, 0, Run.HERE, 1, 60);
        run.due(0, "addNote", 0, 0, 0, 0, 1, 60);
        run.due(1, "addNote", 0, 0, 0, 3, 1, 60);
        run.due(2, "addNote", 0, 1, 0, 0, 1, 60);
        run.due(3, "addNote", 0, 1, 0, 31, 1, 60);
    }

    @Sentence(A_NOTE)
    static void notBeyondTheBar(Run run) {
        run.score(1, 0);
        run.does("addBar", 1, 0, false);
        for (int tick = 0; tick < 4; tick++) {
            run.outside(1, 4 - tick, Run.ARGUMENT, "addNote", 0, 0, 0, tick, Run.HERE, 60);
            run.due(tick, "addNote", 0, 0, 0, tick, 4 - tick, 60);
            run.does("takeOut", tick);
        }
        run.does("addBar", 8, 0, false);
        run.outside(1, 32, Run.ARGUMENT, "addNote", 0, 1, 1, 0, Run.HERE, 60);
        run.due(4, "addNote", 0, 1, 1, 0, 32, 60);
        run.outside(1, 1, Run.ARGUMENT, "addNote", 0, 1, 0, 31, Run.HERE, 60);
        run.due(5, "addNote", 0, 1, 0, 31, 1, 60);
    }

    /** Sums of a tick and a length that wrap around to a number within the bar, and other extremes. */
    @Sentence(A_NOTE)
    static void ticksThatWrapAround(Run run) {
        run.score(1, 1);
        int[][] extremes = {{Run.MOST, Run.MOST}, {Run.MOST, Run.LEAST}, {Run.LEAST, Run.MOST}, {Run.LEAST, Run.LEAST},
            {-1, 2}, {-1, 17}, {-15, 16}, {1, Run.MOST}, {15, Run.MOST}, {Run.MOST, 1}, {Run.MOST, 16},
            {Run.LEAST, 1}, {16, Run.LEAST}, {17, -1}, {16, 0}, {Run.MOST - 1, 3}, {16, -16}};
        for (int[] extreme : extremes) {
            run.refused(Run.ARGUMENT, "addNote", 0, 0, 0, extreme[0], extreme[1], 60);
        }
        run.due(0, "addNote", 0, 0, 0, 0, 16, 60);
    }

    @Sentence(A_NOTE)
    static void pitchOfANote(Run run) {
        run.score(0, 1);
        run.does("addPart", 12);
        run.outside(24, 96, Run.ARGUMENT, "addNote", 0, 0, 0, 0, 1, Run.HERE);
        run.due(0, "addNote", 0, 0, 0, 0, 1, 24);
        run.due(1, "addNote", 0, 0, 0, 1, 1, 96);
        run.due(24, "pitchOf", 0);
        run.due(96, "pitchOf", 1);
    }

    private static final String NO_TICK_IN_COMMON = "Terms: Notes of the same part, bar and voice have no tick in"
            + " common.";

    @Sentence(NO_TICK_IN_COMMON)
    static void oneTickInCommon(Run run) {
        run.score(1, 1);
        run.does("addNote", 0, 0, 0, 4, 4, 60);
        run.refused(Run.UNSUPPORTED, "addNote", 0, 0, 0, 4, 1, 60);
        run.refused(Run.UNSUPPORTED, "addNote", 0, 0, 0, 7, 1, 60);
        run.refused(Run.UNSUPPORTED, "addNote", 0, 0, 0, 0, 5, 60);
        run.refused(Run.UNSUPPORTED, "addNote", 0, 0, 0, 7, 9, 60);
        run.refused(Run.UNSUPPORTED, "addNote", 0, 0, 0, 0, 16, 60);
        run.refused(Run.UNSUPPORTED, "addNote", 0, 0, 0, 4, 4, 60);
        run.refused(Run.UNSUPPORTED, "addNote", 0, 0, 0, 5, 2, 60);
        run.due(1, "addNote", 0, 0, 0, 0, 4, 60);
        run.due(2, "addNote", 0, 0, 0, 8, 8, 60);
    }

    @Sentence(NO_TICK_IN_COMMON)
    static void otherPartBarOrVoice(Run run) {
        run.score(2, 2);
        run.does("addNote", 0, 0, 0, 0, 16, 60);
        run.due(1, "addNote", 1, 0, 0, 0, 16, 60);
        run.due(2, "addNote", 0, 1, 0, 0, 16, 60);
        run.due(3, "addNote", 0, 0, 1, 0, 16, 60);
        run.refused(Run.UNSUPPORTED, "addNote", 1, 0, 0, 0, 1, 60);
        run.refused(Run.UNSUPPORTED, "addNote", 0, 1, 0, 15, 1, 60);
        run.refused(Run.UNSUPPORTED, "addNote", 0, 0, 1, 8, 1, 60);
    }

    @Sentence(NO_TICK_IN_COMMON)
    static void aFullBarOfAPart(Run run) {
        run.full();
        for (int tick : new int[] {0, 15, 31}) {
            run.refused(Run.UNSUPPORTED, "addNote", 0, 0, 0, tick, 1, 60);
            run.refused(Run.UNSUPPORTED, "addNote", 0, 0, 1, tick, 1, 60);
        }
    }

    @Sentence("Terms: A note can be taken out.")
    static void takenOut(Run run) {
        run.score(1, 1);
        run.does("addNote", 0, 0, 0, 0, 16, 60);
        run.refused(Run.UNSUPPORTED, "addNote", 0, 0, 0, 15, 1, 60);
        run.due(0, "takeOut", 0);
        run.refused(Run.NONE, "pitchOf", 0);
        run.due(0, "notesIn", 0, 0);
        run.due(0L, "ticks");
        run.due(1, "addNote", 0, 0, 0, 15, 1, 61);
        run.due(1, "noteAt", 0, 0, 0);
        run.refused(Run.NONE, "noteAt", 0, 0, 1);
    }

    private static final String ORDER = "Terms: The notes of a part in a bar are ordered by their first ticks, and those"
            + " with the same one by their voices.";

    @Sentence(ORDER)
    static void orderOfNeighbours(Run run) {
        run.score(1, 1);
        run.does("addNote", 0, 0, 1, 15, 1, 60);
        run.does("addNote", 0, 0, 0, 15, 1, 60);
        run.does("addNote", 0, 0, 0, 1, 1, 60);
        run.does("addNote", 0, 0, 1, 1, 1, 60);
        run.does("addNote", 0, 0, 1, 0, 1, 60);
        int[] order = {4, 2, 3, 1, 0};
        for (int index = 0; index < order.length; index++) {
            run.due(order[index], "noteAt", 0, 0, index);
        }
        run.refused(Run.NONE, "noteAt", 0, 0, 5);
    }

    @Sentence(ORDER)
    static void orderOfAFullBar(Run run) {
        run.full();
        for (int tick = 0; tick < 32; tick++) {
            run.due(tick, "noteAt", 0, 0, 2 * tick);
            run.due(32 + tick, "noteAt", 0, 0, 2 * tick + 1);
        }
        run.refused(Run.NONE, "noteAt", 0, 0, 64);
    }

    @Sentence("Terms: A note is written at its pitch plus the shift of its part.")
    static void lowestAndHighestWritten(Run run) {
        run.score(0, 1);
        run.does("addPart", -12);
        run.does("addPart", 12);
        run.does("addNote", 0, 0, 0, 0, 1, 24);
        run.does("addNote", 0, 0, 0, 1, 1, 96);
        run.does("addNote", 1, 0, 0, 0, 1, 24);
        run.does("addNote", 1, 0, 0, 1, 1, 96);
        int[] written = {12, 84, 36, 108};
        for (int note = 0; note < written.length; note++) {
            run.due(written[note], "written", note);
        }
    }

    private static final String WRITTEN_KEY = "Terms: The written key of a part in a bar is the key of the bar plus 7"
            + " times the shift of the part, plus or minus 12 as often as needed to be from -5 to 6.";

    @Sentence(WRITTEN_KEY)
    static void endsOfTheWrittenKeys(Run run) {
        // Each row: key of the bar, shift of the part, written key.
        int[][] rows = {{-5, 0, -5}, {-6, 0, 6}, {6, 0, 6}, {0, 1, -5}, {-1, 1, 6}, {1, -1, 6}, {2, -1, -5},
            {-6, 12, 6}, {6, 12, 6}, {-6, -12, 6}, {6, -12, 6}, {-5, 12, -5}, {-5, -12, -5}, {5, 11, -2}, {-6, -11, 1}};
        for (int[] row : rows) {
            run.anew();
            run.does("addPart", row[1]);
            run.does("addBar", 1, row[0], false);
            run.due(row[2], "writtenKey", 0, 0);
        }
    }

    @Sentence(WRITTEN_KEY)
    static void allKeysAndShifts(Run run) {
        for (int lowest = -12; lowest <= 12; lowest += 5) {
            run.anew();
            for (int part = 0; part < 5; part++) {
                run.does("addPart", lowest + part);
            }
            for (int bar = 0; bar < 13; bar++) {
                run.does("addBar", 1, bar - 6, false);
                for (int part = 0; part < 5; part++) {
                    run.due(near(bar - 6 + 7 * (lowest + part)), "writtenKey", part, bar);
                }
            }
        }
    }

    private static int near(int key) {
        if (key < -5) {
            return near(key + 12);
        }
        return key > 6 ? near(key - 12) : key;
    }

    /** Looks at the spelling of a written pitch in a key, told as a letter and the number of sharps. */
    private static void spelled(Run run, int key, int pitch, String due) {
        run.does("setKey", 0, key);
        run.does("correct", 0, pitch);
        run.due(due.substring(0, 1), "letterOf", 0);
        run.due(due.substring(1), "accidentalOf", 0);
    }

    private static void oneNote(Run run, int shift) {
        run.anew();
        run.does("addPart", shift);
        run.does("addBar", 1, 0, false);
        run.does("addNote", 0, 0, 0, 0, 1, 60);
    }

    @Sentence("Terms: A place on the line of fifths is a number; the places 0 to 6 are C, G, D, A, E, B and F sharp,"
            + " the place -1 is F, and so on by fifths in both directions.")
    static void placesOnTheLine(Run run) {
        oneNote(run, 0);
        int[] pitches = {68, 63, 70, 65, 60, 67, 62, 69, 64, 71, 66, 61};
        String[] fromPlaceMinus4 = {"A-1", "E-1", "B-1", "F0", "C0", "G0", "D0", "A0", "E0", "B0", "F1", "C1"};
        for (int i = 0; i < pitches.length; i++) {
            spelled(run, 0, pitches[i], fromPlaceMinus4[i]);
        }
    }

    private static final String SPELLED = "Terms: A written pitch is spelled by the place from the written key minus 4"
            + " to the written key plus 7 that has the same remainder, multiplied by 7 and divided by 12, as the pitch"
            + " divided by 12, where remainders are from 0 to 11.";
    private static final String[] KEY_MINUS_4 = {"B-2 69", "F-1 64", "C-1 71", "G-1 66", "D-1 61", "A-1 68", "E-1 63",
        "B-1 70", "F0 65", "C0 60", "G0 67", "D0 62"};
    private static final String[] KEY_PLUS_7 = {"D0 62", "A0 69", "E0 64", "B0 71", "F1 66", "C1 61", "G1 68", "D1 63",
        "A1 70", "E1 65", "B1 60", "F2 67"};

    @Sentence(SPELLED)
    static void firstAndLastPlaceOfEachKey(Run run) {
        oneNote(run, 0);
        for (int key = -5; key <= 6; key++) {
            String[] first = KEY_MINUS_4[key + 5].split(" ");
            String[] last = KEY_PLUS_7[key + 5].split(" ");
            spelled(run, key, Integer.parseInt(first[1]), first[0]);
            spelled(run, key, Integer.parseInt(last[1]), last[0]);
        }
        spelled(run, -6, 62, "D0");
        spelled(run, -6, 67, "F2");
    }

    /** The remainder of a pitch is the same in each octave, that of a place below 0 is not below 0. */
    @Sentence(SPELLED)
    static void remainders(Run run) {
        for (int shift : new int[] {-12, 0, 12}) {
            oneNote(run, shift);
            for (int pitch = 24; pitch <= 96; pitch += 12) {
                spelled(run, 0, pitch, "C0");
                spelled(run, 0, Math.min(pitch + 11, 95), "B0");
            }
        }
        oneNote(run, 0);
        spelled(run, -5, 24 + 9, "B-2");
        spelled(run, -5, 84 + 9, "B-2");
    }

    /** The places -9 to 13 are all that the keys reach. */
    @Sentence("Terms: The letters of the places go F, C, G, D, A, E, B and begin again with F behind B; the places -1 to"
            + " 5 have no accidental, the next 7 have 1 sharp, the next 7 have 2, and so on, and the 7 ahead of them"
            + " have 1 flat, and so on.")
    static void endsOfTheAccidentals(Run run) {
        oneNote(run, 0);
        spelled(run, -5, 69, "B-2");
        spelled(run, -4, 64, "F-1");
        spelled(run, 0, 70, "B-1");
        spelled(run, 0, 65, "F0");
        spelled(run, 0, 71, "B0");
        spelled(run, 0, 66, "F1");
        spelled(run, 5, 60, "B1");
        spelled(run, 6, 67, "F2");
    }

    /** These pitches are those at which the two ways differ. */
    @Sentence("Terms: For spelling, the place is multiplied by 7, the pitch is not.")
    static void thePlaceIsMultiplied(Run run) {
        oneNote(run, 0);
        spelled(run, 0, 61, "C1");
        spelled(run, 0, 63, "E-1");
        spelled(run, 0, 65, "F0");
        spelled(run, 0, 67, "G0");
        spelled(run, 0, 69, "A0");
        spelled(run, 0, 71, "B0");
    }
}
