/**
 * The core of music notation.
 *
 * <p>Voices of notes and rests are put into bars; what is too long for a bar is cut and tied.
 * The numbers that a caller names by "what" are kept in rows of the same number.
 */
public final class ScorePress {
    private static final int MOST_VOICES = 4;
    private static final int MOST_ELEMENTS = 200;
    private static final int MOST_BARS = 100;
    private static final int WHOLE_TICKS = 384;
    // The longest value, 672 ticks, written by the shortest one, 12 ticks.
    private static final int MOST_PIECES = 56;

    private static final int STEPS = 7;
    private static final int OCTAVES = 9;
    private static final int[] STEP_TONES = {0, 2, 4, 5, 7, 9, 11};
    // Where each step stands in F C G D A E B; read backwards, this is the order of the flats.
    private static final int[] SHARP_PLACES = {1, 3, 5, 0, 2, 4, 6};

    // All values, the longest one first; no two of them have the same ticks.
    private static final int[] VALUE_PARTS = {1, 1, 1, 2, 2, 2, 4, 4, 4, 8, 8, 8, 16, 16, 32};
    private static final int[] VALUE_DOTS = {2, 1, 0, 2, 1, 0, 2, 1, 0, 2, 1, 0, 1, 0, 0};
    private static final int[] VALUE_TICKS =
        {672, 576, 384, 336, 288, 192, 168, 144, 96, 84, 72, 48, 36, 24, 12};

    // What score() and voice() tell.
    private static final int SCORE_NUMBERS = 5;
    private static final int VOICE_NUMBERS = 7;

    // The rows of an element, numbered as element() tells them.
    private static final int BEGIN = 0;
    private static final int TICKS = 1;
    private static final int PART = 2;
    private static final int DOTS = 3;
    private static final int TONE = 4;
    private static final int TIED = 5;
    private static final int BAR = 6;
    private static final int SHOWN = 7;
    private static final int BEAM = 8;
    private static final int ELEMENT_NUMBERS = 9;

    // The rows of a note's pitch, numbered as pitch() tells them.
    private static final int STEP = 0;
    private static final int SIGN = 1;
    private static final int OCTAVE = 2;
    private static final int PITCH_NUMBERS = 3;

    // The rows of a sound.
    private static final int SOUND_BEGIN = 0;
    private static final int SOUND_END = 1;
    private static final int SOUND_TONE = 2;
    private static final int SOUND_NUMBERS = 3;

    // The rows of an event, numbered as event() tells them.
    private static final int EVENT_TICK = 0;
    private static final int EVENT_VOICE = 1;
    private static final int EVENT_TONE = 2;
    private static final int EVENT_BEGINS = 3;
    private static final int EVENT_NUMBERS = 4;

    private static final int NO_TONE = -1;
    private static final int NO_BEAM = -1;
    private static final int NO_INTERVAL = -100;

    private final Voice[] voices = new Voice[MOST_VOICES];
    private final EventRows eventRows = new EventRows();
    private final int[] pieces = new int[MOST_PIECES];
    private int voiceCount = 0;
    private int beatTicks = WHOLE_TICKS / 4;
    private int barTicks = WHOLE_TICKS;
    private int key = 0;
    private boolean eventsStand = false;

    /** Creates an empty score. */
    public ScorePress() {
        for (int v = 0; v < MOST_VOICES; v++) {
            voices[v] = new Voice();
        }
    }

    // ---- the score

    /** Sets the bars; returns the ticks of a bar. */
    public int setBars(int beats, int part)
            throws IllegalArgumentException, IllegalStateException {
        if (beats < 1 || beats > 12 || (part != 2 && part != 4 && part != 8)) {
            throw new IllegalArgumentException("no such bar");
        }
        if (greatestEnd() > 0) {
            throw new IllegalStateException("a voice has elements");
        }
        beatTicks = WHOLE_TICKS / part;
        barTicks = beats * beatTicks;
        return barTicks;
    }

    /** Sets the key; notes stay as they are. Returns the key before. */
    public int setKey(int key) throws IllegalArgumentException {
        if (!isKey(key)) {
            throw new IllegalArgumentException("no such key");
        }
        int before = this.key;
        this.key = key;
        arrangeAll();
        return before;
    }

    /** Adds a voice without elements; returns its number. */
    public int addVoice() throws IllegalStateException {
        if (voiceCount >= MOST_VOICES) {
            throw new IllegalStateException("there are 4 voices");
        }
        voiceCount++;
        return voiceCount - 1;
    }

    /** Tells a number of the whole score. */
    public int score(int what) throws IndexOutOfBoundsException {
        if (what < 0 || what >= SCORE_NUMBERS) {
            throw new IndexOutOfBoundsException("no such number of the score");
        }
        switch (what) {
            case 0:
                return voiceCount;
            case 1:
                return barTicks;
            case 2:
                return key;
            case 3:
                return barsBegun();
            default:
                return greatestEnd();
        }
    }

    /** Tells the sign of a step by the key. */
    public int sign(int step) throws IllegalArgumentException {
        if (step < 0 || step >= STEPS) {
            throw new IllegalArgumentException("no such step");
        }
        return signOfKey(key, step);
    }

    /** Tells the ticks of a value. */
    public int ticks(int part, int dots) throws IllegalArgumentException {
        int value = findValue(part, dots);
        if (value < 0) {
            throw new IllegalArgumentException("no such value");
        }
        return VALUE_TICKS[value];
    }

    // ---- elements

    /** Adds a note at the end of a voice; returns how many elements were made. */
    public int addNote(
            int voice, int part, int dots, int step, int sign, int octave, boolean isTied)
            throws IndexOutOfBoundsException, IllegalArgumentException, IllegalStateException {
        requireVoice(voice);
        int value = findValue(part, dots);
        if (value < 0 || !isPitch(step, sign, octave)) {
            throw new IllegalArgumentException("no such value or pitch");
        }
        Voice added = voices[voice];
        int first = added.count;
        int made = addPieces(added, value);
        for (int i = first; i < added.count; i++) {
            added.putPitch(i, step, sign, octave);
            boolean isLast = i == added.count - 1;
            added.told[TIED][i] = isTied || !isLast ? 1 : 0;
        }
        arrangeOne(added);
        return made;
    }

    /** Adds a rest at the end of a voice; returns how many elements were made. */
    public int addRest(int voice, int part, int dots)
            throws IndexOutOfBoundsException, IllegalArgumentException, IllegalStateException {
        requireVoice(voice);
        int value = findValue(part, dots);
        if (value < 0) {
            throw new IllegalArgumentException("no such value");
        }
        int made = addPieces(voices[voice], value);
        arrangeOne(voices[voice]);
        return made;
    }

    /** Takes the last element of a voice away; returns how many are left. */
    public int removeLast(int voice) throws IndexOutOfBoundsException, IllegalStateException {
        requireVoice(voice);
        Voice shortened = voices[voice];
        if (shortened.count == 0) {
            throw new IllegalStateException("the voice has no elements");
        }
        shortened.dropLast();
        arrangeOne(shortened);
        return shortened.count;
    }

    /** Ties a note to the next element, or not; returns whether it was tied before. */
    public boolean tie(int voice, int element, boolean isTied)
            throws IndexOutOfBoundsException, IllegalStateException {
        requireElement(voice, element);
        Voice changed = voices[voice];
        if (!changed.isNote(element)) {
            throw new IllegalStateException("the element is a rest");
        }
        boolean wasTied = changed.isTied(element);
        changed.told[TIED][element] = isTied ? 1 : 0;
        arrangeOne(changed);
        return wasTied;
    }

    /** Tells a number of an element. */
    public int element(int voice, int element, int what) throws IndexOutOfBoundsException {
        requireElement(voice, element);
        if (what < 0 || what >= ELEMENT_NUMBERS) {
            throw new IndexOutOfBoundsException("no such number of an element");
        }
        return voices[voice].told[what][element];
    }

    /** Tells the step, the sign or the octave of a note. */
    public int pitch(int voice, int element, int what)
            throws IndexOutOfBoundsException, IllegalStateException {
        requireElement(voice, element);
        if (what < 0 || what >= PITCH_NUMBERS) {
            throw new IndexOutOfBoundsException("no such number of a pitch");
        }
        if (!voices[voice].isNote(element)) {
            throw new IllegalStateException("the element is a rest");
        }
        return voices[voice].pitches[what][element];
    }

    /** Tells a number of a voice. */
    public int voice(int voice, int what) throws IndexOutOfBoundsException {
        requireVoice(voice);
        if (what < 0 || what >= VOICE_NUMBERS) {
            throw new IndexOutOfBoundsException("no such number of a voice");
        }
        return voices[voice].tell(what);
    }

    // ---- transposing, faults

    /** Transposes all notes of all voices, and the key; returns the key then. */
    public int transpose(int steps, int semitones)
            throws IllegalArgumentException, IllegalStateException {
        if (steps < -14 || steps > 14 || semitones < -24 || semitones > 24) {
            throw new IllegalArgumentException("too far to transpose");
        }
        int newKey = key + 7 * semitones - 12 * steps;
        if (!isKey(newKey)) {
            throw new IllegalStateException("the key would not be one");
        }
        for (int v = 0; v < voiceCount; v++) {
            if (!voices[v].canTranspose(steps, semitones)) {
                throw new IllegalStateException("a pitch would not be one");
            }
        }
        for (int v = 0; v < voiceCount; v++) {
            voices[v].moveNotes(steps, semitones);
        }
        key = newKey;
        arrangeAll();
        return key;
    }

    /** Counts the faults of the music. */
    public int faults() {
        int bars = barsBegun();
        int found = 0;
        for (int a = 0; a < voiceCount; a++) {
            found += bars - wholeParts(voices[a].end, barTicks);
            found += voices[a].countLooseTies();
            for (int b = a + 1; b < voiceCount; b++) {
                found += countParallels(voices[a], voices[b]);
            }
        }
        return found;
    }

    /** Tells the tone of voice b less that of voice a at a tick; -100 if one of them is silent. */
    public int interval(int a, int b, int tick)
            throws IndexOutOfBoundsException, IllegalArgumentException {
        requireVoice(a);
        requireVoice(b);
        if (tick < 0) {
            throw new IllegalArgumentException("the tick is less than 0");
        }
        int toneA = voices[a].toneAt(tick);
        int toneB = voices[b].toneAt(tick);
        return toneA == NO_TONE || toneB == NO_TONE ? NO_INTERVAL : toneB - toneA;
    }

    // ---- playing

    /** Tells a number of an event: a sound begins, or ends. */
    public int event(int index, int what) throws IndexOutOfBoundsException {
        if (index < 0 || index >= countEvents()) {
            throw new IndexOutOfBoundsException("no such event");
        }
        if (what < 0 || what >= EVENT_NUMBERS) {
            throw new IndexOutOfBoundsException("no such number of an event");
        }
        refreshEvents();
        return eventRows.told[what][index];
    }

    /** Counts the events. */
    public int events() {
        return countEvents();
    }

    /** Tells the time of a tick, in microseconds. */
    public long time(int tick, int speed) throws IllegalArgumentException {
        if (tick < 0 || tick > 100000 || speed < 10 || speed > 400) {
            throw new IllegalArgumentException("no such tick or speed");
        }
        return tick * 625000L / speed;
    }

    /** Tells the mean tone of all notes, each as often as it has ticks; 0 if there are none. */
    public double meanTone() {
        long tones = 0;
        long ticks = 0;
        for (int v = 0; v < voiceCount; v++) {
            Voice counted = voices[v];
            for (int i = 0; i < counted.count; i++) {
                if (counted.isNote(i)) {
                    tones += (long) counted.told[TONE][i] * counted.told[TICKS][i];
                    ticks += counted.told[TICKS][i];
                }
            }
        }
        return ticks > 0 ? (double) tones / (double) ticks : 0.0;
    }

    /** Computes a checksum of all that the score tells. */
    public long digest() {
        long d = 389;
        for (int what = 0; what < SCORE_NUMBERS; what++) {
            d = d * 31 + score(what);
        }
        for (int v = 0; v < voiceCount; v++) {
            d = digestVoice(d, voices[v]);
        }
        d = d * 31 + faults();
        d = d * 31 + countEvents();
        refreshEvents();
        return digestEvents(d);
    }

    // ---- what the calls share

    private void requireVoice(int voice) {
        if (voice < 0 || voice >= voiceCount) {
            throw new IndexOutOfBoundsException("no such voice");
        }
    }

    private void requireElement(int voice, int element) {
        requireVoice(voice);
        if (element < 0 || element >= voices[voice].count) {
            throw new IndexOutOfBoundsException("no such element");
        }
    }

    private int greatestEnd() {
        int greatest = 0;
        for (int v = 0; v < voiceCount; v++) {
            greatest = Math.max(greatest, voices[v].end);
        }
        return greatest;
    }

    // A voice has no gaps and its elements do not cross bars, so one begins in each bar up to its last.
    private int barsBegun() {
        int bars = 0;
        for (int v = 0; v < voiceCount; v++) {
            Voice counted = voices[v];
            if (counted.count > 0) {
                bars = Math.max(bars, counted.told[BAR][counted.count - 1] + 1);
            }
        }
        return bars;
    }

    private void arrangeOne(Voice changed) {
        changed.arrange(key, beatTicks);
        eventsStand = false;
    }

    private void arrangeAll() {
        for (int v = 0; v < voiceCount; v++) {
            voices[v].arrange(key, beatTicks);
        }
        eventsStand = false;
    }

    // ---- adding

    /** Adds a value to a voice as rests, cut at the bars; returns how many elements were made. */
    private int addPieces(Voice added, int value) {
        int made = planPieces(added.end, VALUE_TICKS[value]);
        if (added.count + made > MOST_ELEMENTS) {
            throw new IllegalStateException("the voice would have more than 200 elements");
        }
        if (added.end + VALUE_TICKS[value] > MOST_BARS * barTicks) {
            throw new IllegalStateException("the voice would end behind the bar 99");
        }
        for (int i = 0; i < made; i++) {
            added.append(pieces[i], wholeParts(added.end, barTicks));
        }
        return made;
    }

    // What fits into its bar needs no case of its own: the greatest value is then the value itself.
    private int planPieces(int begin, int ticks) {
        int left = ticks;
        int leftInBar = barTicks - (begin - wholeParts(begin, barTicks) * barTicks);
        int made = 0;
        while (left > 0 && made < MOST_PIECES) {
            int value = greatestValue(Math.min(left, leftInBar));
            pieces[made] = value;
            made++;
            left -= VALUE_TICKS[value];
            leftInBar -= VALUE_TICKS[value];
            if (leftInBar <= 0) {
                leftInBar = barTicks;
            }
        }
        return made;
    }

    private static int greatestValue(int ticks) {
        for (int value = 0; value < VALUE_TICKS.length; value++) {
            if (VALUE_TICKS[value] <= ticks) {
                return value;
            }
        }
        return VALUE_TICKS.length - 1;
    }

    private static int findValue(int part, int dots) {
        for (int value = 0; value < VALUE_TICKS.length; value++) {
            if (VALUE_PARTS[value] == part && VALUE_DOTS[value] == dots) {
                return value;
            }
        }
        return -1;
    }

    private static int wholeParts(int ticks, int size) {
        return size > 0 ? ticks / size : 0;
    }

    // ---- pitches

    private static boolean isKey(int key) {
        return key >= -STEPS && key <= STEPS;
    }

    private static int signOfKey(int key, int step) {
        int sharpPlace = SHARP_PLACES[step];
        int flatPlace = STEPS - 1 - sharpPlace;
        if (sharpPlace < key) {
            return 1;
        }
        return flatPlace < -key ? -1 : 0;
    }

    private static int toneOf(int step, int sign, int octave) {
        return 12 * octave + STEP_TONES[step] + sign;
    }

    // Places count the steps of all octaves upwards, from the step 0 of the octave 0 on.
    private static int stepAt(int place) {
        return Math.floorMod(place, STEPS);
    }

    private static int octaveAt(int place) {
        return Math.floorDiv(place, STEPS);
    }

    private static int signAt(int place, int tone) {
        return tone - toneOf(stepAt(place), 0, octaveAt(place));
    }

    private static boolean isPitch(int step, int sign, int octave) {
        if (step < 0 || step >= STEPS || octave < 0 || octave >= OCTAVES) {
            return false;
        }
        return sign >= -2 && sign <= 2 && toneOf(step, sign, octave) >= 0;
    }

    // ---- faults

    private static int countParallels(Voice a, Voice b) {
        int found = 0;
        int earlierA = NO_TONE;
        int earlierB = NO_TONE;
        int j = 0;
        for (int i = 0; i < a.count; i++) {
            int begin = a.told[BEGIN][i];
            while (j < b.count && b.told[BEGIN][j] < begin) {
                j++;
            }
            boolean beginsTogether = j < b.count && b.told[BEGIN][j] == begin;
            if (beginsTogether && a.isNote(i) && b.isNote(j)) {
                int toneA = a.told[TONE][i];
                int toneB = b.told[TONE][j];
                if (earlierA != NO_TONE && isParallel(earlierA, earlierB, toneA, toneB)) {
                    found++;
                }
                earlierA = toneA;
                earlierB = toneB;
            }
        }
        return found;
    }

    private static boolean isParallel(int earlierA, int earlierB, int toneA, int toneB) {
        int distance = Math.floorMod(toneB - toneA, 12);
        if (distance != 0 && distance != 7) {
            return false;
        }
        if (distance != Math.floorMod(earlierB - earlierA, 12)) {
            return false;
        }
        boolean bothRise = toneA > earlierA && toneB > earlierB;
        boolean bothFall = toneA < earlierA && toneB < earlierB;
        return bothRise || bothFall;
    }

    // ---- events and checksum

    private int countEvents() {
        int sounds = 0;
        for (int v = 0; v < voiceCount; v++) {
            sounds += voices[v].soundCount;
        }
        return 2 * sounds;
    }

    private void refreshEvents() {
        if (!eventsStand) {
            eventRows.merge(voices, voiceCount, countEvents());
            eventsStand = true;
        }
    }

    private static long digestVoice(long start, Voice told) {
        long d = start;
        for (int what = 0; what < VOICE_NUMBERS; what++) {
            d = d * 31 + told.tell(what);
        }
        for (int i = 0; i < told.count; i++) {
            for (int what = 0; what < ELEMENT_NUMBERS; what++) {
                d = d * 31 + told.told[what][i];
            }
        }
        return d;
    }

    private long digestEvents(long start) {
        long d = start;
        int count = countEvents();
        for (int i = 0; i < count; i++) {
            for (int what = 0; what < EVENT_NUMBERS; what++) {
                d = d * 31 + eventRows.told[what][i];
            }
        }
        return d;
    }

    /** A row of elements, and what follows from them: sounds, signs that are shown, beams. */
    private static final class Voice {
        final int[][] told = new int[ELEMENT_NUMBERS][MOST_ELEMENTS];
        final int[][] pitches = new int[PITCH_NUMBERS][MOST_ELEMENTS];
        final int[][] sounds = new int[SOUND_NUMBERS][MOST_ELEMENTS];
        // The last note's bar and sign, by the place of its step and octave.
        final int[] heldBars = new int[STEPS * OCTAVES];
        final int[] heldSigns = new int[STEPS * OCTAVES];
        int count = 0;
        int end = 0;
        int soundCount = 0;
        int beamCount = 0;
        int shownCount = 0;
        int greatestTone = NO_TONE;
        int leastTone = NO_TONE;

        int tell(int what) {
            switch (what) {
                case 0:
                    return count;
                case 1:
                    return end;
                case 2:
                    return soundCount;
                case 3:
                    return beamCount;
                case 4:
                    return shownCount;
                case 5:
                    return greatestTone;
                default:
                    return leastTone;
            }
        }

        boolean isNote(int i) {
            return told[TONE][i] != NO_TONE;
        }

        boolean isTied(int i) {
            return told[TIED][i] == 1;
        }

        // A rest is never tied, so the same tone as that of a tied element is the tone of a note.
        boolean isJoinedToNext(int i) {
            if (i < 0 || i + 1 >= count) {
                return false;
            }
            return isTied(i) && told[TONE][i] == told[TONE][i + 1];
        }

        /** The place of a note among the steps of all octaves. */
        int placeOf(int i) {
            return STEPS * pitches[OCTAVE][i] + pitches[STEP][i];
        }

        void append(int value, int bar) {
            told[BEGIN][count] = end;
            told[TICKS][count] = VALUE_TICKS[value];
            told[PART][count] = VALUE_PARTS[value];
            told[DOTS][count] = VALUE_DOTS[value];
            told[TONE][count] = NO_TONE;
            told[TIED][count] = 0;
            told[BAR][count] = bar;
            end += VALUE_TICKS[value];
            count++;
        }

        void dropLast() {
            count--;
            end = told[BEGIN][count];
        }

        void putPitch(int i, int step, int sign, int octave) {
            pitches[STEP][i] = step;
            pitches[SIGN][i] = sign;
            pitches[OCTAVE][i] = octave;
            told[TONE][i] = toneOf(step, sign, octave);
        }

        boolean canTranspose(int steps, int semitones) {
            for (int i = 0; i < count; i++) {
                int place = placeOf(i) + steps;
                int sign = signAt(place, told[TONE][i] + semitones);
                if (isNote(i) && !isPitch(stepAt(place), sign, octaveAt(place))) {
                    return false;
                }
            }
            return true;
        }

        void moveNotes(int steps, int semitones) {
            for (int i = 0; i < count; i++) {
                int place = placeOf(i) + steps;
                int sign = signAt(place, told[TONE][i] + semitones);
                if (isNote(i)) {
                    putPitch(i, stepAt(place), sign, octaveAt(place));
                }
            }
        }

        int countLooseTies() {
            int found = 0;
            for (int i = 0; i < count; i++) {
                if (isTied(i) && !isJoinedToNext(i)) {
                    found++;
                }
            }
            return found;
        }

        int toneAt(int tick) {
            for (int i = 0; i < count; i++) {
                int begin = told[BEGIN][i];
                if (begin <= tick && tick < begin + told[TICKS][i]) {
                    return told[TONE][i];
                }
            }
            return NO_TONE;
        }

        void arrange(int key, int beatTicks) {
            arrangeTones();
            arrangeSounds();
            arrangeSigns(key);
            arrangeBeams(beatTicks);
        }

        private void arrangeTones() {
            greatestTone = NO_TONE;
            leastTone = NO_TONE;
            for (int i = 0; i < count; i++) {
                if (isNote(i)) {
                    int tone = told[TONE][i];
                    greatestTone = Math.max(greatestTone, tone);
                    leastTone = leastTone == NO_TONE ? tone : Math.min(leastTone, tone);
                }
            }
        }

        private void arrangeSounds() {
            soundCount = 0;
            for (int i = 0; i < count; i++) {
                if (isNote(i)) {
                    boolean goesOn = isJoinedToNext(i - 1);
                    int sound = goesOn && soundCount > 0 ? soundCount - 1 : soundCount;
                    if (sound == soundCount) {
                        sounds[SOUND_BEGIN][sound] = told[BEGIN][i];
                        sounds[SOUND_TONE][sound] = told[TONE][i];
                        soundCount++;
                    }
                    sounds[SOUND_END][sound] = told[BEGIN][i] + told[TICKS][i];
                }
            }
        }

        private void arrangeSigns(int key) {
            shownCount = 0;
            for (int place = 0; place < heldBars.length; place++) {
                heldBars[place] = -1;
            }
            for (int i = 0; i < count; i++) {
                told[SHOWN][i] = 0;
                if (isNote(i)) {
                    int place = placeOf(i);
                    int holds = heldBars[place] == told[BAR][i]
                        ? heldSigns[place] : signOfKey(key, pitches[STEP][i]);
                    if (holds != pitches[SIGN][i] && !isJoinedToNext(i - 1)) {
                        told[SHOWN][i] = 1;
                        shownCount++;
                    }
                    heldBars[place] = told[BAR][i];
                    heldSigns[place] = pitches[SIGN][i];
                }
            }
        }

        private void arrangeBeams(int beatTicks) {
            beamCount = 0;
            for (int i = 0; i < count; i++) {
                told[BEAM][i] = NO_BEAM;
                if (isGrouped(i - 1, beatTicks)) {
                    if (told[BEAM][i - 1] == NO_BEAM) {
                        told[BEAM][i - 1] = beamCount;
                        beamCount++;
                    }
                    told[BEAM][i] = told[BEAM][i - 1];
                }
            }
        }

        /** Whether an element and the next one are short notes that begin in the same beat. */
        private boolean isGrouped(int i, int beatTicks) {
            if (i < 0 || i + 1 >= count || !isShortNote(i) || !isShortNote(i + 1)) {
                return false;
            }
            // Bars hold whole beats, so beats counted from the tick 0 tell bars apart, too.
            int beat = wholeParts(told[BEGIN][i], beatTicks);
            return beat == wholeParts(told[BEGIN][i + 1], beatTicks);
        }

        private boolean isShortNote(int i) {
            return isNote(i) && told[PART][i] >= 8;
        }
    }

    /** The beginnings and ends of all sounds, in the order in which they happen. */
    private static final class EventRows {
        final int[][] told = new int[EVENT_NUMBERS][2 * MOST_VOICES * MOST_ELEMENTS];
        // For each voice, how many of its beginnings and ends are told.
        final int[] done = new int[MOST_VOICES];

        void merge(Voice[] voices, int voiceCount, int eventCount) {
            for (int v = 0; v < voiceCount; v++) {
                done[v] = 0;
            }
            for (int i = 0; i < eventCount; i++) {
                int earliest = findEarliest(voices, voiceCount);
                if (earliest >= 0) {
                    put(i, earliest, voices[earliest]);
                    done[earliest]++;
                }
            }
        }

        private int findEarliest(Voice[] voices, int voiceCount) {
            int earliest = -1;
            int leastRank = 0;
            for (int v = 0; v < voiceCount; v++) {
                if (done[v] < 2 * voices[v].soundCount) {
                    int rank = rankOf(voices[v], done[v]);
                    if (earliest < 0 || rank < leastRank) {
                        earliest = v;
                        leastRank = rank;
                    }
                }
            }
            return earliest;
        }

        // At the same tick an end ranks ahead of a beginning.
        private static int rankOf(Voice from, int event) {
            return 2 * tickOf(from, event) + (isBeginning(event) ? 1 : 0);
        }

        // A voice's events are, by turns, a beginning and the end of the same sound.
        private static boolean isBeginning(int event) {
            return (event & 1) == 0;
        }

        private static int tickOf(Voice from, int event) {
            return from.sounds[isBeginning(event) ? SOUND_BEGIN : SOUND_END][event >> 1];
        }

        private void put(int i, int voice, Voice from) {
            int event = done[voice];
            told[EVENT_TICK][i] = tickOf(from, event);
            told[EVENT_VOICE][i] = voice;
            told[EVENT_TONE][i] = from.sounds[SOUND_TONE][event >> 1];
            told[EVENT_BEGINS][i] = isBeginning(event) ? 1 : 0;
        }
    }
}
