/** The boundary cases of pieces, ties, signs, beams and faults, a test for each sentence of "Terms". */
public final class MusicBoundariesTest {
    private static final Check CHECK = new Check();
    private static final int[] TONE_STEPS = {0, 0, 1, 1, 2, 3, 3, 4, 4, 5, 5, 6};
    private static final int[] TONE_SIGNS = {0, 1, 0, 1, 0, 0, 1, 0, 1, 0, 1, 0};

    private static ScorePress inBars(int voices, int beats, int part) {
        ScorePress x = Check.withVoices(voices);
        x.setBars(beats, part);
        return x;
    }

    /** Adds a note of a part 4 with a tone. */
    private static void tone(ScorePress x, int voice, int tone, boolean isTied) {
        x.addNote(voice, 4, 0, TONE_STEPS[tone % 12], TONE_SIGNS[tone % 12], tone / 12, isTied);
    }

    private static void tones(ScorePress x, int voice, int... tones) {
        for (int t : tones) {
            tone(x, voice, t, false);
        }
    }

    /** Adds notes of the voice 0 with the same pitch. */
    private static void parts(ScorePress x, int... parts) {
        for (int part : parts) {
            x.addNote(0, part, 0, 0, 0, 4, false);
        }
    }

    // ---- pieces

    private static void greatestValues() {
        CHECK.promise("Again and again the greatest value whose ticks are at most those that are left");
        int[][] due = {
            {12, 12}, {24, 24}, {36, 36}, {48, 48}, {60, 48, 12}, {72, 72}, {84, 84}, {96, 96}, {108, 96, 12},
            {120, 96, 24}, {132, 96, 36}, {144, 144}, {156, 144, 12}, {168, 168}, {180, 168, 12}, {192, 192},
            {204, 192, 12}, {228, 192, 36}, {252, 192, 48, 12}, {264, 192, 72}, {276, 192, 84}, {288, 288},
            {324, 288, 36}, {336, 336}, {372, 336, 36}, {384, 384}, {456, 384, 72}, {468, 384, 84},
            {540, 384, 144, 12}, {564, 384, 168, 12}, {576, 576, 96}};
        for (int[] d : due) {
            ScorePress x = inBars(1, 12, 8);
            int first = (576 - d[0]) / 12;
            for (int i = 0; i < first; i++) {
                x.addRest(0, 32, 0);
            }
            x.addNote(0, 1, 2, 0, 0, 4, false);
            for (int i = 1; i < d.length; i++) {
                CHECK.same("ticks of the piece " + i + " of " + d[0], d[i], x.element(0, first + i - 1, 1));
            }
            CHECK.same("the end", 576 - d[0] + 672, x.voice(0, 1));
        }
    }

    private static void pieceValues() {
        CHECK.promise("Of all values with their dots");
        ScorePress x = inBars(1, 12, 8);
        x.addRest(0, 32, 0);
        x.addNote(0, 1, 1, 0, 0, 4, false);
        CHECK.row(x, "parts", 2, 32, 1, 4, 32, 32);
        CHECK.row(x, "dots", 3, 0, 0, 2, 0, 0);
    }

    private static void leastPieces() {
        CHECK.promise("There is always one: 12 ticks are left");
        ScorePress x = inBars(1, 1, 8);
        x.addRest(0, 16, 1);
        CHECK.same("12 and 12", 2, x.addNote(0, 16, 0, 0, 0, 4, false));
        CHECK.row(x, "parts", 2, 16, 32, 32);
    }

    private static void tiedPieces() {
        CHECK.promise("The pieces of a note are tied, each one to the next one; the last one as it was said");
        ScorePress x = Check.withVoices(1);
        x.addRest(0, 2, 1);
        x.addNote(0, 2, 0, 0, 0, 4, false);
        x.addRest(0, 2, 0);
        x.addNote(0, 2, 0, 0, 0, 4, true);
        CHECK.row(x, "tied", 5, 0, 1, 0, 0, 1, 1);
    }

    private static void untiedRests() {
        CHECK.promise("The pieces of a note are tied: those of a rest are not");
        ScorePress x = inBars(1, 1, 8);
        x.addNote(0, 8, 0, 0, 0, 4, true);
        x.removeLast(0);
        CHECK.same("four rests", 4, x.addRest(0, 2, 0));
        CHECK.row(x, "tied", 5, 0, 0, 0, 0);
        CHECK.same("no faults", 0, x.faults());
    }

    // ---- ties

    /** How many sounds two notes of a part 4 make, the first one tied. */
    private static int soundsOf(int[] first, int[] next) {
        ScorePress x = Check.withVoices(1);
        x.addNote(0, 4, 0, first[0], first[1], first[2], true);
        x.addNote(0, 4, 0, next[0], next[1], next[2], false);
        return x.voice(0, 2);
    }

    private static void joinedByTone() {
        CHECK.promise("Joined, if the next one is a note with the same tone");
        int[] c = {0, 0, 4};
        CHECK.same("the same pitch", 1, soundsOf(c, new int[] {0, 0, 4}));
        CHECK.same("the same tone by another step", 1, soundsOf(c, new int[] {1, -2, 4}));
        CHECK.same("the same tone by another octave", 1, soundsOf(c, new int[] {6, 1, 3}));
        CHECK.same("the next tone", 2, soundsOf(c, new int[] {0, 1, 4}));
        CHECK.same("the tone ahead", 2, soundsOf(c, new int[] {0, -1, 4}));
        CHECK.same("the same step and sign, an octave higher", 2, soundsOf(c, new int[] {0, 0, 5}));
    }

    private static void joinedByTie() {
        CHECK.promise("Joined, if it is a note that is tied");
        ScorePress x = Check.withVoices(1);
        tones(x, 0, 48, 48);
        CHECK.same("not tied", 2, x.voice(0, 2));
        x.tie(0, 0, true);
        CHECK.same("tied", 1, x.voice(0, 2));
        x.tie(0, 1, true);
        CHECK.same("the last one is tied, too", 1, x.voice(0, 2));
    }

    private static void notJoinedOverRests() {
        CHECK.promise("Joined to the next one: not to a rest, nor over it, nor behind the last one");
        ScorePress x = Check.withVoices(1);
        tone(x, 0, 48, true);
        CHECK.same("the last element; the bar is not full", 1 + 1, x.faults());
        x.addRest(0, 4, 0);
        tone(x, 0, 48, true);
        CHECK.same("sounds", 2, x.voice(0, 2));
        CHECK.same("the first one ends at the rest", 96, x.event(1, 0));
    }

    private static void longestSound() {
        CHECK.promise("A sound: a note, together with all that are joined to it, one behind the other");
        ScorePress x = Check.withVoices(1);
        for (int i = 0; i < 200; i++) {
            x.addNote(0, 32, 0, 0, 1, 4, true);
        }
        CHECK.same("one sound of 200 notes", 1, x.voice(0, 2));
        CHECK.same("two events", 2, x.events());
        CHECK.same("it begins with the first note", 0, x.event(0, 0));
        CHECK.same("it ends with the last note", 2400, x.event(1, 0));
        CHECK.same("one sign is shown", 1, x.voice(0, 4));
        x.tie(0, 99, false);
        CHECK.same("two sounds of 100 notes", 2, x.voice(0, 2));
        CHECK.same("the first one ends", 1200, x.event(1, 0));
        CHECK.same("the next one begins there", 1200, x.event(2, 0));
        CHECK.index("no fifth event", () -> x.event(4, 0));
    }

    private static void shortestSound() {
        CHECK.promise("A sound begins with this note, and ends with the last one of them: a note alone");
        ScorePress x = Check.withVoices(1);
        x.addRest(0, 32, 0);
        x.addNote(0, 32, 0, 0, 0, 4, false);
        CHECK.same("it begins", 12, x.event(0, 0));
        CHECK.same("it ends", 24, x.event(1, 0));
        CHECK.same("one sound", 1, x.voice(0, 2));
    }

    // ---- signs

    private static void quarters(ScorePress x, int[]... pitches) {
        for (int[] p : pitches) {
            x.addNote(0, 4, 0, p[0], p[1], p[2], false);
        }
    }

    private static void signsOfBars() {
        CHECK.promise("At the beginning of a bar the sign that holds is that of the key");
        ScorePress x = inBars(1, 2, 4);
        x.setKey(1);
        int[] f = {3, 0, 4};
        int[] fSharp = {3, 1, 4};
        quarters(x, f, f, f, fSharp, fSharp, fSharp);
        CHECK.row(x, "shown", 7, 1, 0, 1, 1, 0, 0);
    }

    private static void signsBehindNotes() {
        CHECK.promise("Behind a note its own sign holds");
        ScorePress x = inBars(1, 12, 4);
        int[] c = {0, 0, 4};
        int[] cSharp = {0, 1, 4};
        int[] cTwoSharps = {0, 2, 4};
        quarters(x, c, cSharp, cSharp, cTwoSharps, cSharp, c, c);
        CHECK.row(x, "shown", 7, 0, 1, 0, 1, 1, 1, 0);
    }

    private static void signsOfOctaves() {
        CHECK.promise("Each step of each octave has a sign that holds");
        ScorePress x = inBars(1, 12, 4);
        int[][] pitches = {{0, 1, 4}, {0, 1, 5}, {0, 1, 3}, {1, 1, 4}, {0, 1, 4}, {0, 0, 5}, {6, 2, 8}, {0, 0, 0}};
        quarters(x, pitches);
        CHECK.row(x, "shown", 7, 1, 1, 1, 1, 0, 1, 1, 0);
    }

    private static void signsOfEdges() {
        CHECK.promise("Each step of each octave: the least and the greatest one, also when more is added");
        ScorePress x = Check.withVoices(1);
        x.addNote(0, 4, 0, 0, 1, 0, false);
        CHECK.row(x, "the first note", 7, 1);
        x.addNote(0, 4, 0, 6, 1, 8, false);
        CHECK.row(x, "the second note", 7, 1, 1);
        x.addNote(0, 2, 0, 6, 1, 8, false);
        x.addNote(0, 4, 0, 0, 1, 0, false);
        x.addNote(0, 4, 0, 6, 1, 8, false);
        CHECK.row(x, "in two bars", 7, 1, 1, 0, 1, 1);
        x.setKey(7);
        CHECK.row(x, "the signs of the key 7", 7, 0, 0, 0, 0, 0);
        CHECK.same("no signs", 0, x.voice(0, 4));
    }

    private static void signsOfVoices() {
        CHECK.promise("In a voice: a sign of one voice does not hold in another one");
        ScorePress x = Check.withVoices(2);
        x.addNote(0, 4, 0, 0, 1, 4, false);
        x.addNote(1, 4, 0, 0, 1, 4, false);
        x.addNote(1, 4, 0, 0, 1, 4, false);
        CHECK.same("voice(0, 4)", 1, x.voice(0, 4));
        CHECK.same("voice(1, 4)", 1, x.voice(1, 4));
        CHECK.same("element(1, 0, 7)", 1, x.element(1, 0, 7));
    }

    private static void signsOfRests() {
        CHECK.promise("A note shows its sign: a rest shows none, and no sign ends at it");
        ScorePress x = Check.withVoices(1);
        x.addNote(0, 4, 0, 0, 1, 4, true);
        x.addRest(0, 4, 0);
        x.addNote(0, 4, 0, 0, 1, 4, false);
        CHECK.row(x, "shown", 7, 1, 0, 0);
    }

    private static void signsOfJoinedNotes() {
        CHECK.promise("A note shows its sign, if the element ahead of it is not joined to it");
        ScorePress x = inBars(1, 1, 4);
        int[] cSharp = {0, 1, 4};
        quarters(x, cSharp, cSharp, cSharp);
        CHECK.row(x, "shown, not tied", 7, 1, 1, 1);
        x.tie(0, 0, true);
        CHECK.row(x, "shown, tied once", 7, 1, 0, 1);
        x.tie(0, 1, true);
        CHECK.row(x, "shown, tied twice", 7, 1, 0, 0);
        x.tie(0, 0, false);
        CHECK.row(x, "shown, the second one joined", 7, 1, 1, 0);
    }

    private static void signsOfPieces() {
        CHECK.promise("The element ahead is joined to it: pieces behind a bar show no sign, which holds behind them");
        ScorePress x = inBars(1, 1, 2);
        x.addNote(0, 1, 1, 0, 1, 4, false);
        x.removeLast(0);
        x.addNote(0, 4, 0, 0, 1, 4, false);
        x.addNote(0, 4, 0, 0, 1, 4, false);
        CHECK.row(x, "shown", 7, 1, 0, 0, 0);
        x.addNote(0, 8, 0, 0, 1, 4, false);
        CHECK.same("shown in the next bar", 1, x.element(0, 4, 7));
    }

    // ---- beams

    private static void beatsOfParts() {
        CHECK.promise("Beats are the parts of a bar that have 384 / part ticks");
        int[] eighths = {8, 8, 8, 8, 8, 8, 8, 8};
        ScorePress x = inBars(1, 2, 2);
        parts(x, eighths);
        CHECK.row(x, "beats of 192", 8, 0, 0, 0, 0, 1, 1, 1, 1);
        ScorePress y = inBars(1, 4, 4);
        parts(y, eighths);
        CHECK.row(y, "beats of 96", 8, 0, 0, 1, 1, 2, 2, 3, 3);
        ScorePress z = inBars(1, 8, 8);
        parts(z, eighths);
        CHECK.row(z, "beats of 48", 8, -1, -1, -1, -1, -1, -1, -1, -1);
    }

    private static void beatOfBar() {
        CHECK.promise("Notes that begin in the same beat of the same bar");
        ScorePress x = inBars(1, 1, 4);
        parts(x, 8, 8, 8, 8);
        CHECK.row(x, "bars of one beat", 8, 0, 0, 1, 1);
        ScorePress y = inBars(1, 3, 4);
        parts(y, 4, 4, 16, 16, 16, 32, 32, 32, 32, 32);
        CHECK.row(y, "across the end of a bar", 8, -1, -1, 0, 0, 0, 0, 0, 1, 1, 1);
    }

    private static void beginInBeat() {
        CHECK.promise("Notes that begin in the same beat: the last tick of it, and the first one of the next");
        ScorePress x = Check.withVoices(1);
        x.addNote(0, 8, 2, 0, 0, 4, false);
        parts(x, 8, 8, 16, 32);
        // They begin at 0, 84, 132, 180 and 204.
        CHECK.row(x, "beams", 8, 0, 0, 1, 1, -1);
        ScorePress y = Check.withVoices(1);
        y.addRest(0, 16, 1);
        y.addNote(0, 8, 0, 0, 0, 4, false);
        y.addNote(0, 32, 0, 0, 0, 4, false);
        // They begin at 36, 84 and 96.
        y.addNote(0, 32, 0, 0, 0, 4, false);
        CHECK.row(y, "beams", 8, -1, 0, 0, -1);
    }

    private static void oneBehindTheOther() {
        CHECK.promise("Notes (not rests) one behind the other");
        ScorePress x = Check.withVoices(1);
        parts(x, 16, 16);
        x.addRest(0, 32, 0);
        parts(x, 32);
        x.addRest(0, 32, 0);
        parts(x, 32);
        CHECK.row(x, "a rest ends a group", 8, 0, 0, -1, -1, -1, -1);
        ScorePress y = Check.withVoices(1);
        y.addRest(0, 8, 0);
        y.addRest(0, 8, 0);
        CHECK.row(y, "rests are in none", 8, -1, -1);
    }

    private static void shortParts() {
        CHECK.promise("With the part 8, 16 or 32");
        ScorePress x = inBars(1, 12, 2);
        parts(x, 8, 16, 32, 4, 8, 8);
        x.addNote(0, 8, 2, 0, 0, 4, false);
        x.addNote(0, 16, 1, 0, 0, 4, false);
        parts(x, 2, 2);
        // The part 4 begins at 84, in the first beat, as the note behind it does, which is alone then.
        CHECK.row(x, "beams", 8, 0, 0, 0, -1, -1, 1, 1, 1, -1, -1);
    }

    private static void leastBeams() {
        CHECK.promise("Groups of at least two are beams");
        ScorePress x = Check.withVoices(1);
        parts(x, 8);
        CHECK.row(x, "one note", 8, -1);
        CHECK.same("no beams", 0, x.voice(0, 3));
        parts(x, 8);
        CHECK.row(x, "two notes", 8, 0, 0);
        CHECK.same("one beam", 1, x.voice(0, 3));
        x.removeLast(0);
        CHECK.row(x, "one note again", 8, -1);
        CHECK.same("no beams again", 0, x.voice(0, 3));
    }

    private static void beamNumbers() {
        CHECK.promise("The number of its beam in this voice, from 0, in their order");
        ScorePress x = Check.withVoices(2);
        parts(x, 8, 8, 4, 8, 8);
        x.addNote(1, 8, 0, 0, 0, 4, false);
        x.addNote(1, 8, 0, 0, 0, 4, false);
        CHECK.row(x, "beams", 8, 0, 0, -1, 1, 1);
        CHECK.same("the first beam of the voice 1", 0, x.element(1, 0, 8));
        CHECK.same("beams of the voice 1", 1, x.voice(1, 3));
    }

    // ---- faults: bars and ties

    private static void noBars() {
        CHECK.promise("Of those ahead of the last bar in which any voice has an element: there is none");
        CHECK.same("without voices", 0, new ScorePress().faults());
        ScorePress x = Check.withVoices(4);
        CHECK.same("without elements", 0, x.faults());
        x.addRest(3, 32, 0);
        x.removeLast(3);
        CHECK.same("without elements again", 0, x.faults());
    }

    private static void lastBarCounts() {
        CHECK.promise("Bars that it does not fill: that one, too");
        ScorePress x = Check.withVoices(1);
        x.addRest(0, 32, 0);
        CHECK.same("12 of 384", 1, x.faults());
        x.addRest(0, 2, 2);
        x.addRest(0, 16, 0);
        CHECK.same("372 of 384", 1, x.faults());
        x.addRest(0, 32, 0);
        CHECK.same("384 of 384", 0, x.faults());
        x.addRest(0, 32, 0);
        CHECK.same("12 in the next bar", 1, x.faults());
    }

    private static void otherVoicesBars() {
        CHECK.promise("For each voice, one for each bar that it does not fill");
        ScorePress x = Check.withVoices(3);
        for (int bar = 0; bar < 100; bar++) {
            x.addRest(1, 1, 0);
        }
        CHECK.same("two voices without elements", 200, x.faults());
        x.addRest(0, 2, 2);
        CHECK.same("not even the first bar", 200, x.faults());
        x.addRest(0, 8, 0);
        CHECK.same("the first bar", 199, x.faults());
        x.addVoice();
        CHECK.same("three other voices", 299, x.faults());
        x.removeLast(1);
        CHECK.same("99 bars", 296, x.faults());
    }

    private static void looseTies() {
        CHECK.promise("One for each tied note that is not joined to the next element");
        ScorePress x = inBars(1, 1, 4);
        tone(x, 0, 48, true);
        CHECK.same("the last element", 1, x.faults());
        tone(x, 0, 48, false);
        CHECK.same("joined", 0, x.faults());
        x.tie(0, 1, true);
        CHECK.same("the last element again", 1, x.faults());
        x.addRest(0, 4, 0);
        CHECK.same("a rest", 1, x.faults());
        x.removeLast(0);
        tone(x, 0, 49, true);
        CHECK.same("another tone, and the last element", 2, x.faults());
    }

    // ---- faults: pairs of voices

    /** Faults of two voices with two notes each, which fill their bar. */
    private static int faultsOf(int a1, int b1, int a2, int b2) {
        ScorePress x = inBars(2, 1, 2);
        tones(x, 0, a1, a2);
        tones(x, 1, b1, b2);
        return x.faults();
    }

    private static void firstTick() {
        CHECK.promise("One for each tick, but the first one, at which a note of each of them begins");
        ScorePress x = inBars(2, 1, 4);
        tones(x, 0, 48);
        tones(x, 1, 60);
        CHECK.same("the first tick", 0, x.faults());
        tones(x, 0, 50);
        tones(x, 1, 62);
        CHECK.same("the second tick", 1, x.faults());
        x.removeLast(1);
        x.addRest(1, 4, 0);
        CHECK.same("a rest instead", 0, x.faults());
        ScorePress y = inBars(2, 1, 4);
        y.addRest(0, 4, 0);
        tones(y, 0, 50);
        tones(y, 1, 60, 62);
        CHECK.same("the first tick is 96", 0, y.faults());
    }

    private static void earlierPair() {
        CHECK.promise("The earlier pair is that of the greatest such tick ahead of it");
        ScorePress x = inBars(2, 1, 4);
        tones(x, 0, 48, 50, 52);
        tones(x, 1, 60, 65);
        x.addNote(1, 4, 0, 2, 0, 5, false);
        CHECK.same("0, 3, 0: the pair ahead has another distance", 0, x.faults());
        ScorePress y = inBars(2, 1, 4);
        tones(y, 0, 48, 50, 52);
        tones(y, 1, 60);
        y.addRest(1, 4, 0);
        tones(y, 1, 64);
        CHECK.same("0, none, 0: the pair ahead of the rest", 1, y.faults());
        ScorePress z = inBars(2, 1, 4);
        tones(z, 0, 48);
        z.addNote(0, 8, 0, 1, 0, 4, false);
        z.addNote(0, 8, 0, 3, 0, 4, false);
        tones(z, 0, 52);
        tones(z, 1, 60, 65, 64);
        CHECK.same("0, 3, 0: the eighth of one voice alone is no pair", 0, z.faults());
    }

    private static void noteOfOneVoice() {
        CHECK.promise("Each tick at which a note of each of them begins: not where one of them alone begins");
        ScorePress x = inBars(2, 1, 2);
        x.addNote(0, 8, 0, 0, 0, 4, false);
        x.addNote(0, 8, 0, 1, 0, 4, false);
        tones(x, 0, 52);
        tones(x, 1, 60, 64);
        CHECK.same("two notes of a against one of b", 1, x.faults());
        ScorePress y = inBars(2, 1, 2);
        tones(y, 0, 48, 52);
        y.addNote(1, 8, 0, 0, 0, 5, false);
        y.addNote(1, 8, 0, 1, 0, 5, false);
        tones(y, 1, 64);
        CHECK.same("two notes of b against one of a", 1, y.faults());
    }

    private static void distances() {
        CHECK.promise("The tone of b less that of a, by the remainder of 12, is the same for both pairs, and 0 or 7");
        for (int distance = -24; distance <= 24; distance++) {
            int remainder = ((distance % 12) + 12) % 12;
            int due = remainder == 0 || remainder == 7 ? 1 : 0;
            CHECK.same("the distance " + distance, due, faultsOf(48, 48 + distance, 50, 50 + distance));
        }
    }

    private static void distancesWrapped() {
        CHECK.promise("By the remainder of 12 (0 to 11): less than 0, and octaves more");
        CHECK.same("-5 and 7", 1, faultsOf(48, 43, 50, 57));
        CHECK.same("19 and -17", 1, faultsOf(48, 67, 90, 73));
        CHECK.same("-12 and 24", 1, faultsOf(48, 36, 50, 74));
        CHECK.same("5 and -7, which is 5", 0, faultsOf(48, 53, 62, 55));
        CHECK.same("7 and -7, which is 5", 0, faultsOf(48, 55, 66, 59));
        CHECK.same("-7 and -7", 0, faultsOf(50, 43, 52, 45));
    }

    private static void otherDistances() {
        CHECK.promise("The same for both pairs");
        CHECK.same("0 and 7", 0, faultsOf(48, 60, 50, 69));
        CHECK.same("7 and 0", 0, faultsOf(48, 55, 50, 62));
        CHECK.same("6 and 7", 0, faultsOf(48, 54, 50, 57));
        CHECK.same("0 and 11", 0, faultsOf(48, 60, 50, 61));
        CHECK.same("0 and 1", 0, faultsOf(48, 60, 50, 63));
    }

    private static void bothGreater() {
        CHECK.promise("The tones of both voices are greater than in the earlier pair, or both are less");
        CHECK.same("both are 1 greater", 1, faultsOf(48, 60, 49, 61));
        CHECK.same("both are 1 less", 1, faultsOf(48, 60, 47, 59));
        CHECK.same("both are the same", 0, faultsOf(48, 60, 48, 60));
        CHECK.same("a is the same, b greater", 0, faultsOf(48, 60, 48, 72));
        CHECK.same("a is the same, b less", 0, faultsOf(48, 60, 48, 48));
        CHECK.same("b is the same, a greater", 0, faultsOf(48, 60, 60, 60));
        CHECK.same("b is the same, a less", 0, faultsOf(48, 60, 36, 60));
        CHECK.same("a is greater, b less", 0, faultsOf(48, 60, 54, 54));
        CHECK.same("a is less, b greater", 0, faultsOf(48, 60, 47, 71));
    }

    private static void pairsOfVoices() {
        CHECK.promise("For each pair of voices a < b");
        for (int a = 0; a < 4; a++) {
            for (int b = a + 1; b < 4; b++) {
                ScorePress x = inBars(4, 1, 2);
                tones(x, a, 48, 50);
                tones(x, b, 55, 57);
                CHECK.same("the voices " + a + " and " + b, 2 + 1, x.faults());
                ScorePress y = inBars(4, 1, 2);
                tones(y, a, 55, 57);
                tones(y, b, 48, 50);
                CHECK.same("b below a: 5, not 7", 2, y.faults());
            }
        }
        CHECK.same("without a pair", 0, inBars(1, 4, 4).faults());
    }

    private static void manyPairs() {
        CHECK.promise("One for each tick: as many as there can be");
        ScorePress x = inBars(4, 1, 2);
        for (int i = 0; i < 100; i++) {
            for (int v = 0; v < 4; v++) {
                tone(x, v, 12 * (v + 1) + i % 2, false);
            }
        }
        CHECK.same("six pairs of voices, 99 ticks", 6 * 99, x.faults());
    }

    public static void main(String[] arguments) {
        greatestValues();
        pieceValues();
        leastPieces();
        tiedPieces();
        untiedRests();
        joinedByTone();
        joinedByTie();
        notJoinedOverRests();
        longestSound();
        shortestSound();
        signsOfBars();
        signsBehindNotes();
        signsOfOctaves();
        signsOfEdges();
        signsOfVoices();
        signsOfRests();
        signsOfJoinedNotes();
        signsOfPieces();
        beatsOfParts();
        beatOfBar();
        beginInBeat();
        oneBehindTheOther();
        shortParts();
        leastBeams();
        beamNumbers();
        noBars();
        lastBarCounts();
        otherVoicesBars();
        looseTies();
        firstTick();
        earlierPair();
        noteOfOneVoice();
        distances();
        distancesWrapped();
        otherDistances();
        bothGreater();
        pairsOfVoices();
        manyPairs();
        CHECK.end();
    }
}
