/**
 * Each sentence of the document that refuses a call: "Throws .. if ..", "A method that throws an
 * exception changes nothing", "If several exceptions apply, the one that is named first is thrown".
 * What lies beside the edge is not refused.
 */
public final class RefusedCallsTest {
    private static final Check CHECK = new Check();
    private static final Refusals CALLS = new Refusals(CHECK);
    private static final int LEAST = Integer.MIN_VALUE;
    private static final int GREATEST = Integer.MAX_VALUE;

    // ---- scores in which calls are refused

    private static ScorePress empty() {
        return new ScorePress();
    }

    private static ScorePress withoutElements() {
        ScorePress x = Check.withVoices(2);
        x.setBars(5, 8);
        x.setKey(3);
        return x;
    }

    /** Two voices with rests, ties, signs and beams; the voice 0 has six elements, the voice 1 two. */
    private static ScorePress small() {
        ScorePress x = Check.withVoices(2);
        x.setBars(3, 4);
        x.setKey(-2);
        x.addNote(0, 8, 0, 2, 0, 4, true);
        x.addNote(0, 8, 0, 2, 0, 4, false);
        x.addRest(0, 4, 0);
        x.addNote(0, 2, 0, 3, 1, 4, false);
        x.addNote(0, 4, 1, 6, -1, 3, true);
        x.addNote(1, 1, 0, 4, 0, 4, false);
        // The events are told once, so that they would be old if a refused call changed something.
        x.digest();
        return x;
    }

    /** The voice 0 has as many elements of 12 ticks as are asked for, the voice 1 one. */
    private static ScorePress withElements(int count) {
        ScorePress x = Check.withVoices(2);
        for (int i = 0; i < count; i++) {
            x.addNote(0, 32, 0, i % 7, i % 2, 4, false);
        }
        x.addNote(1, 2, 0, 0, 0, 4, true);
        return x;
    }

    /** Bars of 192 ticks; the voice 0 ends as many ticks ahead of the end of the bar 99 as asked for. */
    private static ScorePress nearLastBar(int ticksLeft) {
        ScorePress x = Check.withVoices(2);
        x.setBars(1, 2);
        for (int bar = 0; bar < 99; bar++) {
            x.addNote(0, 2, 0, bar % 7, 0, 4, false);
        }
        for (int ticks = 192; ticks > ticksLeft; ticks -= 12) {
            x.addRest(0, 32, 0);
        }
        return x;
    }

    /** One note of a part 4 in each of two voices. */
    private static ScorePress twoNotes(int key, int step, int sign, int octave) {
        ScorePress x = Check.withVoices(2);
        x.setKey(key);
        x.addNote(0, 4, 0, 2, 0, 4, false);
        x.addNote(1, 4, 0, step, sign, octave, false);
        return x;
    }

    // ---- the score

    private static void setBarsWrong() {
        CHECK.promise("setBars: IllegalArgumentException if beats is not 1 to 12, or part is not 2, 4 or 8");
        int[] beats = {0, 13, -1, LEAST, GREATEST};
        for (int b : beats) {
            CALLS.argument("setBars(" + b + ", 4)", RefusedCallsTest::withoutElements, x -> x.setBars(b, 4));
        }
        int[] parts = {0, 1, 3, 5, 7, 9, 16, 32, -2, -4, -8, LEAST, GREATEST};
        for (int p : parts) {
            CALLS.argument("setBars(4, " + p + ")", RefusedCallsTest::withoutElements, x -> x.setBars(4, p));
        }
        CALLS.argument("setBars(0, 0) without voices", RefusedCallsTest::empty, x -> x.setBars(0, 0));
        CALLS.allowed("setBars(1, 2)", 192, RefusedCallsTest::withoutElements, x -> x.setBars(1, 2));
        CALLS.allowed("setBars(12, 8)", 576, RefusedCallsTest::withoutElements, x -> x.setBars(12, 8));
        CALLS.allowed("setBars(12, 4)", 1152, RefusedCallsTest::withoutElements, x -> x.setBars(12, 4));
    }

    private static void setBarsTooLate() {
        CHECK.promise("setBars: IllegalStateException if a voice has elements");
        CALLS.state("setBars(4, 8)", RefusedCallsTest::small, x -> x.setBars(4, 8));
        CALLS.state("setBars(3, 4), as it is", RefusedCallsTest::small, x -> x.setBars(3, 4));
        CALLS.state("setBars(6, 8), as long as it is", RefusedCallsTest::small, x -> x.setBars(6, 8));
        Refusals.Maker inLastVoice = () -> {
            ScorePress x = Check.withVoices(4);
            x.addRest(3, 32, 0);
            return x;
        };
        CALLS.state("setBars(2, 2) with a rest in the voice 3", inLastVoice, x -> x.setBars(2, 2));
        CALLS.allowed("setBars(2, 2) when it is removed", 384, inLastVoice, x -> {
            x.removeLast(3);
            return x.setBars(2, 2);
        });
    }

    private static void setKey() {
        CHECK.promise("setKey: IllegalArgumentException if key is not -7 to 7");
        int[] keys = {-8, 8, LEAST, GREATEST};
        for (int key : keys) {
            CALLS.argument("setKey(" + key + ")", RefusedCallsTest::small, x -> x.setKey(key));
        }
        CALLS.allowed("setKey(-7)", -2, RefusedCallsTest::small, x -> x.setKey(-7));
        CALLS.allowed("setKey(7)", -2, RefusedCallsTest::small, x -> x.setKey(7));
    }

    private static void addVoice() {
        CHECK.promise("addVoice: IllegalStateException if there are 4");
        CALLS.state("the fifth addVoice()", () -> Check.withVoices(4), ScorePress::addVoice);
        CALLS.state("the fifth addVoice() with elements", () -> {
            ScorePress x = small();
            x.addVoice();
            x.addVoice();
            x.addNote(3, 8, 0, 0, 0, 4, false);
            return x;
        }, ScorePress::addVoice);
        CALLS.allowed("the fourth addVoice()", 3, () -> Check.withVoices(3), ScorePress::addVoice);
    }

    private static void score() {
        CHECK.promise("score: IndexOutOfBoundsException if what is not 0 to 4");
        int[] wrong = {-1, 5, LEAST, GREATEST};
        for (int what : wrong) {
            CALLS.index("score(" + what + ")", RefusedCallsTest::small, x -> x.score(what));
            CALLS.index("score(" + what + ") without voices", RefusedCallsTest::empty, x -> x.score(what));
        }
        CALLS.allowed("score(0)", 2, RefusedCallsTest::small, x -> x.score(0));
        CALLS.allowed("score(4)", 528, RefusedCallsTest::small, x -> x.score(4));
    }

    private static void sign() {
        CHECK.promise("sign: IllegalArgumentException if step is not 0 to 6");
        int[] wrong = {-1, 7, LEAST, GREATEST};
        for (int step : wrong) {
            CALLS.argument("sign(" + step + ")", RefusedCallsTest::small, x -> x.sign(step));
        }
        CALLS.allowed("sign(0)", 0, RefusedCallsTest::small, x -> x.sign(0));
        CALLS.allowed("sign(6)", -1, RefusedCallsTest::small, x -> x.sign(6));
    }

    private static final int[][] NO_VALUES = {
        {0, 0}, {-1, 0}, {3, 0}, {5, 0}, {6, 0}, {12, 0}, {24, 0}, {31, 0}, {33, 0}, {64, 0}, {LEAST, 0},
        {GREATEST, 0}, {1, -1}, {1, 3}, {8, 3}, {4, LEAST}, {4, GREATEST}, {16, 2}, {16, -1}, {32, 1},
        {32, 2}, {32, -1}, {0, 1}, {LEAST, GREATEST}};

    private static void ticks() {
        CHECK.promise("ticks: IllegalArgumentException if there is no such value");
        for (int[] v : NO_VALUES) {
            CALLS.argument("ticks(" + v[0] + ", " + v[1] + ")", RefusedCallsTest::small, x -> x.ticks(v[0], v[1]));
        }
        CALLS.allowed("ticks(1, 2)", 672, RefusedCallsTest::small, x -> x.ticks(1, 2));
        CALLS.allowed("ticks(16, 1)", 36, RefusedCallsTest::small, x -> x.ticks(16, 1));
        CALLS.allowed("ticks(32, 0)", 12, RefusedCallsTest::small, x -> x.ticks(32, 0));
    }

    // ---- elements

    private static final int[] NO_VOICES = {-1, 2, 3, 4, LEAST, GREATEST};

    private static void addWithoutVoice() {
        CHECK.promise("addNote, addRest: IndexOutOfBoundsException if there is no such voice");
        for (int v : NO_VOICES) {
            CALLS.index("addNote to " + v, RefusedCallsTest::small, x -> x.addNote(v, 4, 0, 0, 0, 4, false));
            CALLS.index("addRest to " + v, RefusedCallsTest::small, x -> x.addRest(v, 4, 0));
        }
        CALLS.index("addNote without voices", RefusedCallsTest::empty, x -> x.addNote(0, 4, 0, 0, 0, 4, true));
        CALLS.index("addRest without voices", RefusedCallsTest::empty, x -> x.addRest(0, 4, 0));
        CALLS.allowed("addNote to 1", 1, RefusedCallsTest::small, x -> x.addNote(1, 4, 0, 0, 0, 4, false));
        CALLS.allowed("addRest to 1", 1, RefusedCallsTest::small, x -> x.addRest(1, 4, 0));
    }

    private static void addWithoutValue() {
        CHECK.promise("addNote, addRest: IllegalArgumentException if there is no such value");
        for (int[] v : NO_VALUES) {
            String value = v[0] + ", " + v[1];
            CALLS.argument("addNote of " + value, RefusedCallsTest::small,
                x -> x.addNote(0, v[0], v[1], 0, 0, 4, true));
            CALLS.argument("addRest of " + value, RefusedCallsTest::small, x -> x.addRest(0, v[0], v[1]));
        }
    }

    private static void addWithoutPitch() {
        CHECK.promise("addNote: IllegalArgumentException if there is no such pitch");
        int[][] pitches = {
            {-1, 0, 4}, {7, 0, 4}, {LEAST, 0, 4}, {GREATEST, 0, 4}, {0, -3, 4}, {0, 3, 4}, {0, LEAST, 4},
            {0, GREATEST, 4}, {0, 0, -1}, {0, 0, 9}, {0, 0, LEAST}, {0, 0, GREATEST}, {6, 2, -1}, {0, -2, 9}};
        for (int[] p : pitches) {
            CALLS.argument("addNote of " + p[0] + ", " + p[1] + ", " + p[2], RefusedCallsTest::small,
                x -> x.addNote(1, 8, 0, p[0], p[1], p[2], true));
        }
    }

    private static void addBelowTone() {
        CHECK.promise("What would have a tone less than 0 is no pitch");
        CALLS.argument("the tone -1", RefusedCallsTest::small, x -> x.addNote(1, 8, 0, 0, -1, 0, false));
        CALLS.argument("the tone -2", RefusedCallsTest::small, x -> x.addNote(1, 8, 0, 0, -2, 0, false));
        CALLS.allowed("the tone 0 of C", 1, RefusedCallsTest::small, x -> x.addNote(1, 8, 0, 0, 0, 0, false));
        CALLS.allowed("the tone 0 of D", 1, RefusedCallsTest::small, x -> x.addNote(1, 8, 0, 1, -2, 0, false));
        CALLS.allowed("C with the sign -2 in the octave 1", 1, RefusedCallsTest::small,
            x -> x.addNote(1, 8, 0, 0, -2, 1, false));
    }

    private static void addTooManyElements() {
        CHECK.promise("addNote, addRest: IllegalStateException if the voice would have more than 200 elements");
        Refusals.Maker full = () -> withElements(200);
        CALLS.state("the note 201", full, x -> x.addNote(0, 32, 0, 0, 0, 4, false));
        CALLS.state("the rest 201", full, x -> x.addRest(0, 32, 0));
        CALLS.allowed("another voice", 1, full, x -> x.addRest(1, 32, 0));
        CALLS.allowed("the rest 200 again", 1, full, x -> {
            x.removeLast(0);
            return x.addRest(0, 32, 0);
        });
        // 2376 ticks are 6 bars and 72: the three pieces are 288, 24 and 24.
        Refusals.Maker with198 = () -> withElements(198);
        CALLS.state("the pieces 199 to 201 of a note", with198, x -> x.addNote(0, 2, 2, 0, 0, 4, true));
        CALLS.state("the pieces 199 to 201 of a rest", with198, x -> x.addRest(0, 2, 2));
        // 2364 ticks are 6 bars and 60: the three pieces are 288, 36 and 12.
        Refusals.Maker with197 = () -> withElements(197);
        CALLS.allowed("the pieces 198 to 200 of a note", 3, with197, x -> x.addNote(0, 2, 2, 0, 0, 4, true));
        CALLS.allowed("the pieces 198 to 200 of a rest", 3, with197, x -> x.addRest(0, 2, 2));
    }

    private static void addBehindLastBar() {
        CHECK.promise("addNote, addRest: IllegalStateException if the voice would end behind the bar 99");
        Refusals.Maker atEnd = () -> nearLastBar(0);
        CALLS.state("a note behind the end", atEnd, x -> x.addNote(0, 32, 0, 0, 0, 4, false));
        CALLS.state("a rest behind the end", atEnd, x -> x.addRest(0, 32, 0));
        CALLS.allowed("another voice", 1, atEnd, x -> x.addRest(1, 32, 0));
        Refusals.Maker nearEnd = () -> nearLastBar(24);
        CALLS.state("a note 12 ticks too long", nearEnd, x -> x.addNote(0, 16, 1, 0, 0, 4, true));
        CALLS.state("a rest 12 ticks too long", nearEnd, x -> x.addRest(0, 16, 1));
        CALLS.state("the longest note", nearEnd, x -> x.addNote(0, 1, 2, 0, 0, 4, true));
        CALLS.allowed("a note up to the end", 1, nearEnd, x -> x.addNote(0, 16, 0, 0, 0, 4, true));
        CALLS.allowed("a rest up to the end", 1, nearEnd, x -> x.addRest(0, 16, 0));
        CALLS.state("the whole bar and 12 ticks", () -> nearLastBar(180), x -> x.addRest(0, 2, 0));
        CALLS.allowed("the whole bar 99", 1, () -> nearLastBar(192), x -> x.addRest(0, 2, 0));
    }

    private static void removeLast() {
        CHECK.promise("removeLast: IndexOutOfBoundsException if there is no such voice");
        for (int v : NO_VOICES) {
            CALLS.index("removeLast(" + v + ")", RefusedCallsTest::small, x -> x.removeLast(v));
        }
        CALLS.index("removeLast(0) without voices", RefusedCallsTest::empty, x -> x.removeLast(0));
        CHECK.promise("removeLast: IllegalStateException if it has none");
        CALLS.state("removeLast(1)", RefusedCallsTest::withoutElements, x -> x.removeLast(1));
        Refusals.Maker emptied = () -> {
            ScorePress x = small();
            x.removeLast(1);
            x.removeLast(1);
            return x;
        };
        CALLS.state("removeLast(1) of an emptied voice", emptied, x -> x.removeLast(1));
        CALLS.allowed("removeLast(0) beside it", 5, emptied, x -> x.removeLast(0));
    }

    private static final int[][] NO_ELEMENTS = {
        {0, -1}, {0, 6}, {1, 2}, {0, 200}, {0, LEAST}, {0, GREATEST}, {-1, 0}, {2, 0}, {4, 0}, {LEAST, 0},
        {GREATEST, GREATEST}};

    private static void tieWithoutElement() {
        CHECK.promise("tie: IndexOutOfBoundsException if there is no such voice or element");
        for (int[] e : NO_ELEMENTS) {
            CALLS.index("tie of " + e[0] + ", " + e[1], RefusedCallsTest::small, x -> x.tie(e[0], e[1], true));
        }
        CALLS.index("tie without voices", RefusedCallsTest::empty, x -> x.tie(0, 0, true));
        CALLS.index("tie without elements", RefusedCallsTest::withoutElements, x -> x.tie(0, 0, true));
        CALLS.index("tie of what was removed", () -> {
            ScorePress x = small();
            x.removeLast(0);
            return x;
        }, x -> x.tie(0, 5, false));
        CALLS.allowed("tie of the first note", true, RefusedCallsTest::small, x -> x.tie(0, 0, false));
        CALLS.allowed("tie of the last note", false, RefusedCallsTest::small, x -> x.tie(1, 1, true));
    }

    private static void tieOfRest() {
        CHECK.promise("tie: IllegalStateException if it is a rest");
        CALLS.state("tie(0, 2, true)", RefusedCallsTest::small, x -> x.tie(0, 2, true));
        CALLS.state("tie(0, 2, false)", RefusedCallsTest::small, x -> x.tie(0, 2, false));
        CALLS.state("tie of a rest where a tied note was", () -> {
            ScorePress x = small();
            x.removeLast(0);
            x.addRest(0, 8, 0);
            return x;
        }, x -> x.tie(0, 5, true));
    }

    private static void element() {
        CHECK.promise("element: IndexOutOfBoundsException if there is no such voice or element, or what is not 0 to 8");
        for (int[] e : NO_ELEMENTS) {
            CALLS.index("element of " + e[0] + ", " + e[1], RefusedCallsTest::small, x -> x.element(e[0], e[1], 0));
        }
        int[] wrong = {-1, 9, LEAST, GREATEST};
        for (int what : wrong) {
            CALLS.index("element(0, 0, " + what + ")", RefusedCallsTest::small, x -> x.element(0, 0, what));
        }
        CALLS.index("element without voices", RefusedCallsTest::empty, x -> x.element(0, 0, 0));
        CALLS.index("element without elements", RefusedCallsTest::withoutElements, x -> x.element(1, 0, 0));
        CALLS.allowed("element(0, 5, 8)", -1, RefusedCallsTest::small, x -> x.element(0, 5, 8));
        CALLS.allowed("element(1, 1, 0)", 288, RefusedCallsTest::small, x -> x.element(1, 1, 0));
    }

    private static void pitchWithoutElement() {
        CHECK.promise("pitch: IndexOutOfBoundsException if there is no such voice or element, or what is not 0 to 2");
        for (int[] e : NO_ELEMENTS) {
            CALLS.index("pitch of " + e[0] + ", " + e[1], RefusedCallsTest::small, x -> x.pitch(e[0], e[1], 0));
        }
        int[] wrong = {-1, 3, LEAST, GREATEST};
        for (int what : wrong) {
            CALLS.index("pitch(0, 0, " + what + ")", RefusedCallsTest::small, x -> x.pitch(0, 0, what));
        }
        CALLS.index("pitch without voices", RefusedCallsTest::empty, x -> x.pitch(0, 0, 0));
        CALLS.index("pitch without elements", RefusedCallsTest::withoutElements, x -> x.pitch(1, 0, 0));
        CALLS.allowed("pitch(0, 0, 0)", 2, RefusedCallsTest::small, x -> x.pitch(0, 0, 0));
        CALLS.allowed("pitch(1, 1, 2)", 4, RefusedCallsTest::small, x -> x.pitch(1, 1, 2));
    }

    private static void pitchOfRest() {
        CHECK.promise("pitch: IllegalStateException if it is a rest");
        for (int what = 0; what <= 2; what++) {
            int w = what;
            CALLS.state("pitch(0, 2, " + w + ")", RefusedCallsTest::small, x -> x.pitch(0, 2, w));
        }
    }

    private static void voice() {
        CHECK.promise("voice: IndexOutOfBoundsException if there is no such voice, or what is not 0 to 6");
        for (int v : NO_VOICES) {
            CALLS.index("voice(" + v + ", 0)", RefusedCallsTest::small, x -> x.voice(v, 0));
        }
        int[] wrong = {-1, 7, LEAST, GREATEST};
        for (int what : wrong) {
            CALLS.index("voice(0, " + what + ")", RefusedCallsTest::small, x -> x.voice(0, what));
        }
        CALLS.index("voice without voices", RefusedCallsTest::empty, x -> x.voice(0, 0));
        CALLS.allowed("voice(0, 0)", 6, RefusedCallsTest::small, x -> x.voice(0, 0));
        CALLS.allowed("voice(1, 6)", 55, RefusedCallsTest::small, x -> x.voice(1, 6));
    }

    // ---- transposing, faults

    private static void transposeTooFar() {
        CHECK.promise("transpose: IllegalArgumentException if steps is not -14 to 14, or semitones is not -24 to 24");
        int[][] far = {
            {15, 24}, {-15, -24}, {14, 25}, {-14, -25}, {15, 25}, {0, 25}, {0, -25}, {15, 0}, {-15, 0},
            {LEAST, 0}, {GREATEST, 0}, {0, LEAST}, {0, GREATEST}, {LEAST, LEAST}, {GREATEST, GREATEST}};
        for (int[] w : far) {
            CALLS.argument("transpose(" + w[0] + ", " + w[1] + ")", RefusedCallsTest::small,
                x -> x.transpose(w[0], w[1]));
        }
        CALLS.allowed("transpose(14, 24)", -2, RefusedCallsTest::small, x -> x.transpose(14, 24));
        CALLS.allowed("transpose(-14, -24)", -2, RefusedCallsTest::small, x -> x.transpose(-14, -24));
    }

    private static void transposeToNoKey() {
        CHECK.promise("transpose: IllegalStateException if the key would not be -7 to 7");
        Refusals.Maker sharps = () -> twoNotes(6, 3, 0, 4);
        CALLS.state("the key 8", sharps, x -> x.transpose(1, 2));
        CALLS.allowed("the key 7", 7, sharps, x -> x.transpose(4, 7));
        Refusals.Maker flats = () -> twoNotes(-6, 3, 0, 4);
        CALLS.state("the key -8", flats, x -> x.transpose(-1, -2));
        CALLS.allowed("the key -7", -7, flats, x -> x.transpose(-4, -7));
        CALLS.state("the key 9 without voices", () -> {
            ScorePress x = new ScorePress();
            x.setKey(7);
            return x;
        }, x -> x.transpose(1, 2));
        CALLS.state("the farthest key upwards", sharps, x -> x.transpose(-14, 24));
        CALLS.state("the farthest key downwards", sharps, x -> x.transpose(14, -24));
    }

    private static void transposeToNoPitch() {
        CHECK.promise("transpose: IllegalStateException if a pitch would not be one");
        // The voice 0 could go; it must stay as it is when the voice 1 can't.
        CALLS.state("the octave 9", () -> twoNotes(0, 6, 0, 8), x -> x.transpose(1, 2));
        CALLS.allowed("the octave 8", 2, () -> twoNotes(0, 6, 0, 7), x -> x.transpose(1, 2));
        CALLS.state("the octave -1", () -> twoNotes(0, 0, 2, 0), x -> x.transpose(-1, -1));
        CALLS.allowed("the octave 0", 5, () -> twoNotes(0, 0, 0, 1), x -> x.transpose(-1, -1));
        CALLS.state("the sign 3", () -> twoNotes(0, 2, 2, 4), x -> x.transpose(0, 1));
        CALLS.allowed("the sign 2", 7, () -> twoNotes(0, 2, 1, 4), x -> x.transpose(0, 1));
        CALLS.state("the sign -3", () -> twoNotes(0, 2, -2, 4), x -> x.transpose(0, -1));
        CALLS.allowed("the sign -2", -7, () -> twoNotes(0, 2, -1, 4), x -> x.transpose(0, -1));
        CALLS.state("the tone -1", () -> twoNotes(0, 0, 0, 0), x -> x.transpose(0, -1));
        CALLS.allowed("the tone 0", -7, () -> twoNotes(0, 0, 1, 0), x -> x.transpose(0, -1));
        CALLS.state("the last of many notes", () -> {
            ScorePress x = withElements(150);
            x.addNote(1, 8, 0, 6, 0, 8, false);
            return x;
        }, x -> x.transpose(1, 1));
    }

    private static void interval() {
        CHECK.promise("interval: IndexOutOfBoundsException if there is no such voice");
        for (int v : NO_VOICES) {
            CALLS.index("interval(" + v + ", 0, 0)", RefusedCallsTest::small, x -> x.interval(v, 0, 0));
            CALLS.index("interval(0, " + v + ", 0)", RefusedCallsTest::small, x -> x.interval(0, v, 0));
        }
        CALLS.index("interval without voices", RefusedCallsTest::empty, x -> x.interval(0, 0, 0));
        CHECK.promise("interval: IllegalArgumentException if tick is less than 0");
        CALLS.argument("the tick -1", RefusedCallsTest::small, x -> x.interval(0, 1, -1));
        CALLS.argument("the least tick", RefusedCallsTest::small, x -> x.interval(0, 1, LEAST));
        CALLS.argument("the tick -1 without elements", RefusedCallsTest::withoutElements,
            x -> x.interval(1, 1, -1));
        CALLS.allowed("the tick 0", 3, RefusedCallsTest::small, x -> x.interval(0, 1, 0));
        CALLS.allowed("the greatest tick", -100, RefusedCallsTest::small, x -> x.interval(0, 1, GREATEST));
    }

    // ---- playing

    private static void event() {
        CHECK.promise("event: IndexOutOfBoundsException if there is no such event, or what is not 0 to 3");
        // Three sounds in the voice 0, one in the voice 1.
        int[] events = {-1, 8, 1599, 1600, LEAST, GREATEST};
        for (int e : events) {
            CALLS.index("event(" + e + ", 0)", RefusedCallsTest::small, x -> x.event(e, 0));
        }
        int[] wrong = {-1, 4, LEAST, GREATEST};
        for (int what : wrong) {
            CALLS.index("event(0, " + what + ")", RefusedCallsTest::small, x -> x.event(0, what));
        }
        CALLS.index("event without voices", RefusedCallsTest::empty, x -> x.event(0, 0));
        CALLS.index("event without elements", RefusedCallsTest::withoutElements, x -> x.event(0, 0));
        CALLS.index("event of a rest alone", () -> {
            ScorePress x = Check.withVoices(1);
            x.addRest(0, 4, 0);
            return x;
        }, x -> x.event(0, 0));
        CALLS.allowed("event(0, 0)", 0, RefusedCallsTest::small, x -> x.event(0, 0));
        CALLS.allowed("event(7, 3)", 0, RefusedCallsTest::small, x -> x.event(7, 3));
    }

    private static void time() {
        CHECK.promise("time: IllegalArgumentException if tick is not 0 to 100000, or speed is not 10 to 400");
        int[][] wrong = {
            {-1, 60}, {100001, 60}, {LEAST, 60}, {GREATEST, 60}, {96, 9}, {96, 401}, {96, 0}, {96, -10},
            {96, LEAST}, {96, GREATEST}, {-1, 0}};
        for (int[] w : wrong) {
            CALLS.argument("time(" + w[0] + ", " + w[1] + ")", RefusedCallsTest::small, x -> x.time(w[0], w[1]));
        }
        CALLS.allowed("time(0, 10)", 0, RefusedCallsTest::small, x -> x.time(0, 10));
        CALLS.allowed("time(100000, 400)", 156250000, RefusedCallsTest::small, x -> x.time(100000, 400));
    }

    // ---- several exceptions

    private static void firstOfTheScore() {
        CHECK.promise("If several exceptions apply, the one that is named first is thrown: setBars, transpose");
        CALLS.argument("setBars: beats, elements", RefusedCallsTest::small, x -> x.setBars(13, 4));
        CALLS.argument("setBars: part, elements", RefusedCallsTest::small, x -> x.setBars(4, 16));
        CALLS.argument("transpose: steps, key", RefusedCallsTest::small, x -> x.transpose(15, 0));
        CALLS.argument("transpose: semitones, key", RefusedCallsTest::small, x -> x.transpose(0, 25));
        CALLS.argument("transpose: steps, pitch", () -> twoNotes(0, 6, 0, 8), x -> x.transpose(15, 24));
    }

    private static void firstOfAdding() {
        CHECK.promise("If several exceptions apply, the one that is named first is thrown: addNote, addRest");
        Refusals.Maker full = () -> withElements(200);
        CALLS.index("addNote: voice, value", full, x -> x.addNote(2, 5, 0, 0, 0, 4, false));
        CALLS.index("addNote: voice, pitch", full, x -> x.addNote(-1, 4, 0, 7, 0, 4, false));
        CALLS.index("addRest: voice, value", full, x -> x.addRest(2, 4, 3));
        CALLS.argument("addNote: value, elements", full, x -> x.addNote(0, 5, 0, 0, 0, 4, false));
        CALLS.argument("addNote: pitch, elements", full, x -> x.addNote(0, 4, 0, 0, 3, 4, false));
        CALLS.argument("addNote: tone, elements", full, x -> x.addNote(0, 4, 0, 0, -1, 0, false));
        CALLS.argument("addRest: value, elements", full, x -> x.addRest(0, 32, 1));
        Refusals.Maker atEnd = () -> nearLastBar(0);
        CALLS.index("addNote: voice, value, pitch", atEnd, x -> x.addNote(4, 0, 9, 9, 9, 9, false));
        CALLS.argument("addNote: value, end", atEnd, x -> x.addNote(0, 16, 2, 0, 0, 4, false));
        CALLS.argument("addNote: pitch, end", atEnd, x -> x.addNote(0, 16, 0, 0, 0, 9, false));
        CALLS.argument("addRest: value, end", atEnd, x -> x.addRest(0, 16, 2));
    }

    private static void firstOfTheRest() {
        CHECK.promise("If several exceptions apply, the one that is named first is thrown: tie, pitch, interval");
        CALLS.index("removeLast: voice, with empty voices", RefusedCallsTest::withoutElements, x -> x.removeLast(2));
        CALLS.index("tie: voice, with the number of a rest", RefusedCallsTest::small, x -> x.tie(2, 2, true));
        CALLS.index("pitch: what, of a rest", RefusedCallsTest::small, x -> x.pitch(0, 2, 3));
        CALLS.index("pitch: what below 0, of a rest", RefusedCallsTest::small, x -> x.pitch(0, 2, -1));
        CALLS.index("interval: voice a, tick", RefusedCallsTest::small, x -> x.interval(2, 0, -1));
        CALLS.index("interval: voice b, tick", RefusedCallsTest::small, x -> x.interval(0, -1, -1));
    }

    public static void main(String[] arguments) {
        setBarsWrong();
        setBarsTooLate();
        setKey();
        addVoice();
        score();
        sign();
        ticks();
        addWithoutVoice();
        addWithoutValue();
        addWithoutPitch();
        addBelowTone();
        addTooManyElements();
        addBehindLastBar();
        removeLast();
        tieWithoutElement();
        tieOfRest();
        element();
        pitchWithoutElement();
        pitchOfRest();
        voice();
        transposeTooFar();
        transposeToNoKey();
        transposeToNoPitch();
        interval();
        event();
        time();
        firstOfTheScore();
        firstOfAdding();
        firstOfTheRest();
        CHECK.end();
    }
}
