import java.math.BigInteger;

/** The boundary cases of what the calls return, by the promises; RefusedCallsTest has what they throw. */
public final class CallsBoundariesTest {
    private static final Check CHECK = new Check();

    private static void note(ScorePress x, int voice, int part, int step, int sign, int octave) {
        x.addNote(voice, part, 0, step, sign, octave, false);
    }

    private static void voiceIs(ScorePress x, int voice, int... due) {
        for (int what = 0; what < due.length; what++) {
            CHECK.same("voice(" + voice + ", " + what + ")", due[what], x.voice(voice, what));
        }
    }

    // ---- the score

    private static void emptyScore() {
        CHECK.promise("ScorePress(): creates an empty score");
        ScorePress x = new ScorePress();
        int[] due = {0, 384, 0, 0, 0};
        for (int what = 0; what < due.length; what++) {
            CHECK.same("score(" + what + ")", due[what], x.score(what));
        }
        CHECK.same("faults()", 0, x.faults());
        CHECK.same("events()", 0, x.events());
        CHECK.sameDouble("meanTone()", 0.0, x.meanTone());
        CHECK.same("transpose(0, 0)", 0, x.transpose(0, 0));
    }

    private static void barsAgain() {
        CHECK.promise("setBars: sets the bars, again and again, as long as no voice has elements");
        ScorePress x = Check.withVoices(1);
        CHECK.same("setBars(12, 2)", 2304, x.setBars(12, 2));
        CHECK.same("setBars(1, 8)", 48, x.setBars(1, 8));
        CHECK.same("a note of two bars", 2, x.addNote(0, 4, 0, 0, 0, 4, false));
        x.removeLast(0);
        x.removeLast(0);
        CHECK.same("setBars(2, 8) without elements again", 96, x.setBars(2, 8));
        CHECK.same("a note of one bar", 1, x.addNote(0, 4, 0, 0, 0, 4, false));
    }

    private static void keyOverNotes() {
        CHECK.promise("setKey: notes stay as they are");
        ScorePress x = Check.withVoices(1);
        note(x, 0, 4, 3, 0, 4);
        note(x, 0, 4, 6, -2, 8);
        CHECK.same("setKey(7)", 0, x.setKey(7));
        CHECK.pitchIs(x, 0, 0, 3, 0, 4);
        CHECK.pitchIs(x, 0, 1, 6, -2, 8);
        CHECK.row(x, "tones", 4, 53, 105);
        CHECK.row(x, "shown", 7, 1, 1);
        CHECK.same("setKey(-7)", 7, x.setKey(-7));
        CHECK.pitchIs(x, 0, 0, 3, 0, 4);
        CHECK.same("setKey(0)", -7, x.setKey(0));
        CHECK.row(x, "shown in the first key", 7, 0, 1);
    }

    private static void barsBegun() {
        CHECK.promise("score: 3 bars that have an element of any voice begun in them");
        ScorePress x = Check.withVoices(2);
        CHECK.same("no elements", 0, x.score(3));
        x.addRest(1, 32, 0);
        CHECK.same("12 ticks", 1, x.score(3));
        x.addRest(0, 1, 0);
        CHECK.same("a whole bar", 1, x.score(3));
        x.addRest(0, 32, 0);
        CHECK.same("a whole bar and 12 ticks", 2, x.score(3));
        x.removeLast(0);
        CHECK.same("one bar again", 1, x.score(3));
        for (int bar = 1; bar < 100; bar++) {
            x.addRest(0, 1, 0);
        }
        CHECK.same("all bars", 100, x.score(3));
    }

    private static void greatestEnd() {
        CHECK.promise("score: 4 the greatest end of all voices, in ticks");
        ScorePress x = Check.withVoices(4);
        CHECK.same("no elements", 0, x.score(4));
        x.addRest(3, 32, 0);
        CHECK.same("12", 12, x.score(4));
        x.addRest(0, 32, 0);
        x.addRest(0, 32, 0);
        CHECK.same("24", 24, x.score(4));
        x.removeLast(0);
        x.removeLast(0);
        CHECK.same("12 again", 12, x.score(4));
        ScorePress y = Check.withVoices(1);
        y.setBars(12, 2);
        for (int bar = 0; bar < 50; bar++) {
            y.addRest(0, 1, 2);
            y.addRest(0, 1, 2);
            y.addRest(0, 1, 2);
            y.addRest(0, 2, 1);
        }
        CHECK.same("50 of the longest bars", 115200, y.score(4));
        CHECK.same("50 bars", 50, y.score(3));
    }

    // ---- elements

    private static void mostPieces() {
        CHECK.promise("addNote, addRest: return how many elements were made: from 1 to 15");
        ScorePress x = Check.withVoices(2);
        x.setBars(1, 8);
        CHECK.same("a note of a bar", 1, x.addNote(0, 8, 0, 0, 0, 4, false));
        CHECK.same("12", 1, x.addNote(0, 32, 0, 0, 0, 4, false));
        CHECK.same("36, 13 bars and 12", 15, x.addNote(0, 1, 2, 0, 0, 4, false));
        CHECK.same("a rest of 14 bars", 14, x.addRest(1, 1, 2));
        CHECK.same("elements", 17, x.voice(0, 0));
    }

    private static void lastOnes() {
        CHECK.promise("removeLast: takes the last element away: up to the first one");
        ScorePress x = Check.withVoices(1);
        x.addRest(0, 4, 0);
        CHECK.same("the first one", 0, x.removeLast(0));
        voiceIs(x, 0, 0, 0, 0, 0, 0, -1, -1);
        for (int i = 0; i < 200; i++) {
            x.addNote(0, 32, 0, 0, 0, 4, true);
        }
        CHECK.same("of 200", 199, x.removeLast(0));
        CHECK.same("the end", 199 * 12, x.voice(0, 1));
        CHECK.same("the sound is shorter", 199 * 12, x.event(1, 0));
        CHECK.same("another one has room", 1, x.addNote(0, 32, 0, 0, 0, 4, true));
    }

    private static void lastPiece() {
        CHECK.promise("removeLast: takes the last element of a voice away: a piece of a note alone");
        ScorePress x = Check.withVoices(1);
        x.addRest(0, 2, 1);
        x.addNote(0, 2, 0, 0, 0, 4, false);
        CHECK.same("of three", 2, x.removeLast(0));
        CHECK.same("it ends with the bar", 384, x.voice(0, 1));
        CHECK.same("the other piece stays tied, to nothing", 1, x.element(0, 1, 5));
        CHECK.same("which is a fault", 1, x.faults());
    }

    private static void tieAgain() {
        CHECK.promise("tie: returns whether it was tied before");
        ScorePress x = Check.withVoices(1);
        x.addNote(0, 1, 1, 0, 0, 4, false);
        CHECK.same("a piece was tied", true, x.tie(0, 0, true));
        CHECK.same("it still was", true, x.tie(0, 0, false));
        CHECK.same("it was not", false, x.tie(0, 0, false));
        CHECK.same("the last piece was not", false, x.tie(0, 1, false));
        CHECK.same("nor now", false, x.tie(0, 1, true));
        CHECK.same("but now", true, x.tie(0, 1, true));
    }

    private static void toneOfRest() {
        CHECK.promise("element: 4 its tone, -1 for a rest");
        ScorePress x = Check.withVoices(1);
        note(x, 0, 4, 0, 0, 0);
        x.addRest(0, 4, 0);
        note(x, 0, 4, 6, 2, 8);
        CHECK.row(x, "tones", 4, 0, -1, 109);
    }

    private static void beamOfNone() {
        CHECK.promise("element: 8 the number of its beam, from 0; -1 if it is in none");
        ScorePress x = Check.withVoices(1);
        note(x, 0, 8, 0, 0, 4);
        CHECK.row(x, "one note", 8, -1);
        note(x, 0, 8, 0, 0, 4);
        CHECK.row(x, "two notes", 8, 0, 0);
        x.addRest(0, 2, 1);
        CHECK.row(x, "and a rest", 8, 0, 0, -1);
    }

    private static void farPitches() {
        CHECK.promise("pitch: 0 its step, 1 its sign, 2 its octave: the least and the greatest");
        ScorePress x = Check.withVoices(1);
        note(x, 0, 4, 1, -2, 0);
        note(x, 0, 4, 0, 0, 0);
        note(x, 0, 4, 6, 2, 8);
        CHECK.pitchIs(x, 0, 0, 1, -2, 0);
        CHECK.pitchIs(x, 0, 1, 0, 0, 0);
        CHECK.pitchIs(x, 0, 2, 6, 2, 8);
    }

    private static void tonesWithoutNotes() {
        CHECK.promise("voice: 5 the greatest tone, 6 the least tone (5 and 6: -1 without notes)");
        ScorePress x = Check.withVoices(1);
        voiceIs(x, 0, 0, 0, 0, 0, 0, -1, -1);
        x.addRest(0, 4, 0);
        voiceIs(x, 0, 1, 96, 0, 0, 0, -1, -1);
        note(x, 0, 4, 0, 0, 0);
        voiceIs(x, 0, 2, 192, 1, 0, 0, 0, 0);
        note(x, 0, 4, 6, 2, 8);
        voiceIs(x, 0, 3, 288, 2, 0, 1, 109, 0);
        x.removeLast(0);
        x.removeLast(0);
        voiceIs(x, 0, 1, 96, 0, 0, 0, -1, -1);
    }

    // ---- transposing

    private static void overOctaves() {
        CHECK.promise("transpose: each pitch gets steps more (an octave is 7 steps)");
        ScorePress x = Check.withVoices(2);
        note(x, 0, 4, 6, 0, 4);
        note(x, 0, 4, 5, 0, 4);
        note(x, 1, 4, 0, 0, 4);
        x.transpose(1, 2);
        CHECK.pitchIs(x, 0, 0, 0, 1, 5);
        CHECK.pitchIs(x, 0, 1, 6, 0, 4);
        x.transpose(-1, -2);
        x.transpose(-1, -2);
        CHECK.pitchIs(x, 1, 0, 6, -1, 3);
        CHECK.pitchIs(x, 0, 1, 4, 0, 4);
        x.transpose(8, 14);
        CHECK.pitchIs(x, 1, 0, 0, 0, 5);
        CHECK.pitchIs(x, 0, 0, 6, 0, 5);
    }

    private static void farTransposing() {
        CHECK.promise("transpose: steps is -14 to 14, semitones -24 to 24");
        ScorePress x = Check.withVoices(1);
        note(x, 0, 4, 0, 0, 0);
        note(x, 0, 4, 6, 2, 6);
        CHECK.same("transpose(14, 24)", 0, x.transpose(14, 24));
        CHECK.pitchIs(x, 0, 0, 0, 0, 2);
        CHECK.pitchIs(x, 0, 1, 6, 2, 8);
        CHECK.same("transpose(-14, -24)", 0, x.transpose(-14, -24));
        CHECK.pitchIs(x, 0, 0, 0, 0, 0);
        CHECK.pitchIs(x, 0, 1, 6, 2, 6);
        CHECK.same("transpose(0, 0)", 0, x.transpose(0, 0));
        CHECK.row(x, "tones", 4, 0, 85);
    }

    private static void keysOfTransposing() {
        CHECK.promise("transpose: the key becomes 7 * semitones - 12 * steps greater; returns the key then");
        ScorePress x = new ScorePress();
        CHECK.same("from 0 to 7", 7, x.transpose(0, 1));
        CHECK.same("from 7 to -5", -5, x.transpose(1, 0));
        CHECK.same("from -5 to 7", 7, x.transpose(-1, 0));
        CHECK.same("from 7 to 0", 0, x.transpose(0, -1));
        CHECK.same("from 0 to -7", -7, x.transpose(0, -1));
        CHECK.same("score(2)", -7, x.score(2));
        CHECK.state("from -7 to -14", () -> x.transpose(0, -1));
        CHECK.same("score(2) then", -7, x.score(2));
    }

    private static void signsOfTransposing() {
        CHECK.promise("transpose: the sign with which its tone is semitones greater: -2 to 2");
        ScorePress x = Check.withVoices(1);
        note(x, 0, 4, 0, 1, 4);
        note(x, 0, 4, 0, -2, 4);
        x.setKey(-3);
        CHECK.same("transpose(0, 1)", 4, x.transpose(0, 1));
        CHECK.pitchIs(x, 0, 0, 0, 2, 4);
        CHECK.pitchIs(x, 0, 1, 0, -1, 4);
        CHECK.same("transpose(0, -1)", -3, x.transpose(0, -1));
        CHECK.pitchIs(x, 0, 1, 0, -2, 4);
    }

    private static void nothingToTranspose() {
        CHECK.promise("transpose: all notes of all voices: none, rests alone, voices without elements");
        ScorePress x = Check.withVoices(3);
        x.addRest(0, 4, 0);
        x.addRest(0, 1, 0);
        CHECK.same("transpose(4, 7)", 1, x.transpose(4, 7));
        CHECK.row(x, "tones", 4, -1, -1, -1);
        note(x, 2, 4, 0, 0, 4);
        CHECK.same("transpose(-4, -7)", 0, x.transpose(-4, -7));
        CHECK.pitchIs(x, 2, 0, 3, 0, 3);
    }

    // ---- intervals

    private static void edgesOfInterval() {
        CHECK.promise("interval: notes that begin at or ahead of the tick, and end behind it");
        ScorePress x = Check.withVoices(2);
        note(x, 0, 4, 0, 0, 4);
        note(x, 0, 4, 1, 0, 4);
        x.addRest(1, 32, 0);
        note(x, 1, 2, 0, 0, 5);
        int[][] due = {{0, -100}, {11, -100}, {12, 12}, {95, 12}, {96, 10}, {191, 10}, {192, -100}, {203, -100},
            {204, -100}};
        for (int[] d : due) {
            CHECK.same("interval(0, 1, " + d[0] + ")", d[1], x.interval(0, 1, d[0]));
            CHECK.same("interval(1, 0, " + d[0] + ")", d[1] == -100 ? -100 : -d[1], x.interval(1, 0, d[0]));
        }
        CHECK.same("the voice 1 sounds on", 0, x.interval(1, 1, 203));
        CHECK.same("the voice 1 has ended", -100, x.interval(1, 1, 204));
    }

    private static void noInterval() {
        CHECK.promise("interval: -100 if one of them has a rest there, or has ended");
        ScorePress x = Check.withVoices(3);
        note(x, 0, 1, 0, 0, 4);
        x.addRest(1, 1, 0);
        CHECK.same("a rest in b", -100, x.interval(0, 1, 0));
        CHECK.same("a rest in a", -100, x.interval(1, 0, 0));
        CHECK.same("rests in both", -100, x.interval(1, 1, 383));
        CHECK.same("b has no elements", -100, x.interval(0, 2, 0));
        CHECK.same("a has no elements", -100, x.interval(2, 0, 0));
        CHECK.same("both have ended", -100, x.interval(0, 0, 384));
        CHECK.same("the greatest tick", -100, x.interval(0, 0, Integer.MAX_VALUE));
        CHECK.same("a voice with itself", 0, x.interval(0, 0, 383));
    }

    private static void farIntervals() {
        CHECK.promise("interval: the tone of b less that of a: the greatest, and the least");
        ScorePress x = Check.withVoices(2);
        note(x, 0, 4, 0, 0, 0);
        note(x, 1, 4, 6, 2, 8);
        CHECK.same("upwards", 109, x.interval(0, 1, 0));
        CHECK.same("downwards", -109, x.interval(1, 0, 95));
    }

    // ---- playing

    private static void eventsAtOneTick() {
        CHECK.promise("event: at the same tick ends come ahead of beginnings, then in ascending order of the voices");
        ScorePress x = Check.withVoices(3);
        for (int v = 2; v >= 0; v--) {
            note(x, v, 4, 0, 0, v);
            note(x, v, 4, 1, 0, v);
        }
        int[][] due = {{0, 0, 0, 1}, {0, 1, 12, 1}, {0, 2, 24, 1}, {96, 0, 0, 0}, {96, 1, 12, 0}, {96, 2, 24, 0},
            {96, 0, 2, 1}, {96, 1, 14, 1}, {96, 2, 26, 1}, {192, 0, 2, 0}, {192, 1, 14, 0}, {192, 2, 26, 0}};
        CHECK.same("events()", due.length, x.events());
        for (int i = 0; i < due.length; i++) {
            for (int what = 0; what <= 3; what++) {
                CHECK.same("event(" + i + ", " + what + ")", due[i][what], x.event(i, what));
            }
        }
    }

    private static void eventsByTick() {
        CHECK.promise("event: these events are in ascending order of their ticks");
        ScorePress x = Check.withVoices(2);
        note(x, 0, 1, 0, 0, 4);
        x.addRest(1, 32, 0);
        note(x, 1, 32, 0, 0, 5);
        int[] ticks = {0, 12, 24, 384};
        int[] voices = {0, 1, 1, 0};
        for (int i = 0; i < ticks.length; i++) {
            CHECK.same("event(" + i + ", 0)", ticks[i], x.event(i, 0));
            CHECK.same("event(" + i + ", 1)", voices[i], x.event(i, 1));
        }
        CHECK.index("event(4, 0)", () -> x.event(4, 0));
    }

    private static void mostEvents() {
        CHECK.promise("events: the number of events: none, and as many as 508 calls can make");
        ScorePress x = Check.withVoices(4);
        CHECK.same("none", 0, x.events());
        for (int i = 0; i < 125; i++) {
            for (int v = 0; v < 4; v++) {
                note(x, v, 32, 0, 0, 4);
            }
        }
        CHECK.same("events()", 1000, x.events());
        CHECK.same("the last one's tick", 1500, x.event(999, 0));
        CHECK.same("the last one's voice", 3, x.event(999, 1));
        CHECK.index("no more", () -> x.event(1000, 0));
    }

    private static void farTimes() {
        CHECK.promise("time: tick * 625000 / speed: the least and the greatest ticks and speeds");
        ScorePress x = new ScorePress();
        CHECK.same("time(0, 10)", 0, x.time(0, 10));
        CHECK.same("time(0, 400)", 0, x.time(0, 400));
        CHECK.same("time(1, 10)", 62500, x.time(1, 10));
        CHECK.same("time(100000, 400)", 156250000, x.time(100000, 400));
        CHECK.same("time(100000, 10), more than an int holds", 6250000000L, x.time(100000, 10));
        CHECK.same("time(99999, 11)", 5681761363L, x.time(99999, 11));
    }

    private static void meanOfNone() {
        CHECK.promise("meanTone: the mean tone of all notes, each as often as it has ticks; 0 if there are none");
        CHECK.sameDouble("no voices", 0.0, new ScorePress().meanTone());
        ScorePress x = Check.withVoices(2);
        CHECK.sameDouble("no elements", 0.0, x.meanTone());
        x.addRest(0, 1, 0);
        CHECK.sameDouble("rests alone", 0.0, x.meanTone());
        note(x, 1, 32, 0, 0, 0);
        CHECK.sameDouble("the tone 0", 0.0, x.meanTone());
        note(x, 1, 1, 0, 1, 0);
        CHECK.sameDouble("12 ticks of the tone 0, 384 of 1", 384.0 / 396.0, x.meanTone());
        while (x.voice(1, 0) > 0) {
            x.removeLast(1);
        }
        CHECK.sameDouble("rests alone again", 0.0, x.meanTone());
    }

    /** The numbers of the checksum, put together without a bound, as the score tells them. */
    private static BigInteger unbounded(ScorePress x) {
        Numbers all = new Numbers();
        for (int what = 0; what <= 4; what++) {
            all.add(x.score(what));
        }
        for (int v = 0; v < x.score(0); v++) {
            for (int what = 0; what <= 6; what++) {
                all.add(x.voice(v, what));
            }
            for (int i = 0; i < x.voice(v, 0); i++) {
                for (int what = 0; what <= 8; what++) {
                    all.add(x.element(v, i, what));
                }
            }
        }
        all.add(x.faults());
        all.add(x.events());
        for (int i = 0; i < x.events(); i++) {
            for (int what = 0; what <= 3; what++) {
                all.add(x.event(i, what));
            }
        }
        return all.sum;
    }

    private static final class Numbers {
        BigInteger sum = BigInteger.valueOf(389);

        void add(int x) {
            sum = sum.multiply(BigInteger.valueOf(31)).add(BigInteger.valueOf(x));
        }
    }

    private static void digestOfEmpty() {
        CHECK.promise("digest: d starts with 389: an empty score");
        ScorePress x = new ScorePress();
        BigInteger due = unbounded(x);
        CHECK.same("seven numbers do not wrap around", due.longValueExact(), x.digest());
        ScorePress y = Check.withVoices(4);
        CHECK.same("voices without elements", unbounded(y).longValue(), y.digest());
    }

    private static void digestWraps() {
        CHECK.promise("digest: wraps around as a 64-bit integer");
        ScorePress x = Check.withVoices(2);
        x.setBars(3, 4);
        x.setKey(-3);
        x.addNote(0, 8, 0, 2, 1, 4, true);
        x.addNote(0, 8, 0, 2, 1, 4, false);
        x.addNote(0, 1, 0, 6, 0, 8, true);
        x.addRest(1, 4, 0);
        x.addNote(1, 16, 0, 0, 0, 0, false);
        x.addNote(1, 16, 0, 0, 1, 0, false);
        BigInteger due = unbounded(x);
        CHECK.same("more than 64 bits", true, due.bitLength() > 64);
        CHECK.same("digest()", due.longValue(), x.digest());
    }

    public static void main(String[] arguments) {
        emptyScore();
        barsAgain();
        keyOverNotes();
        barsBegun();
        greatestEnd();
        mostPieces();
        lastOnes();
        lastPiece();
        tieAgain();
        toneOfRest();
        beamOfNone();
        farPitches();
        tonesWithoutNotes();
        overOctaves();
        farTransposing();
        keysOfTransposing();
        signsOfTransposing();
        nothingToTranspose();
        edgesOfInterval();
        noInterval();
        farIntervals();
        eventsAtOneTick();
        eventsByTick();
        mostEvents();
        farTimes();
        meanOfNone();
        digestOfEmpty();
        digestWraps();
        CHECK.end();
    }
}
