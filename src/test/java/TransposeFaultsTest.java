/** Promises 15 to 17: transposing, faults. */
public final class TransposeFaultsTest {
    private static final Check CHECK = new Check();

    /** Adds a note of a part 4; pitches of steps without signs. */
    private static void quarter(ScorePress x, int voice, int step, int octave) {
        x.addNote(voice, 4, 0, step, 0, octave, false);
    }

    private static void transpose() {
        CHECK.promise("Promise 15");
        ScorePress x = Check.withVoices(2);
        x.addNote(0, 4, 0, 6, 0, 4, true);
        x.addRest(0, 4, 0);
        x.addNote(1, 1, 1, 2, -1, 3, false);
        CHECK.same("a second up", 2, x.transpose(1, 2));
        CHECK.pitchIs(x, 0, 0, 0, 1, 5);
        CHECK.pitchIs(x, 1, 0, 3, 0, 3);
        CHECK.pitchIs(x, 1, 1, 3, 0, 3);
        CHECK.same("the tone", 61, x.element(0, 0, 4));
        CHECK.same("the rest", -1, x.element(0, 1, 4));
        CHECK.same("the sign of the key is not shown", 0, x.element(0, 0, 7));
        CHECK.same("F is shown in the key 2", 1, x.element(1, 0, 7));
        CHECK.same("a fifth down", 1, x.transpose(-4, -7));
        CHECK.pitchIs(x, 0, 0, 3, 1, 4);
        CHECK.pitchIs(x, 1, 0, 6, -1, 2);
        CHECK.same("score(2)", 1, x.score(2));
        CHECK.same("two octaves up", 1, x.transpose(14, 24));
        CHECK.pitchIs(x, 0, 0, 3, 1, 6);
        CHECK.same("two octaves down", 1, x.transpose(-14, -24));
        CHECK.same("nothing", 1, x.transpose(0, 0));
        CHECK.pitchIs(x, 0, 0, 3, 1, 4);
        x.setKey(5);
        CHECK.same("the same tones by the next steps", -7, x.transpose(1, 0));
        CHECK.pitchIs(x, 0, 0, 4, -1, 4);
        CHECK.same("the tone stays", 54, x.element(0, 0, 4));
        wrongTransposing();
        keysAtTheEdge();
    }

    private static void wrongTransposing() {
        ScorePress x = Check.withVoices(2);
        x.addNote(0, 4, 0, 1, 0, 0, false);
        x.addNote(1, 4, 0, 6, 1, 8, false);
        long before = x.digest();
        int[][] far = {{15, 0}, {-15, 0}, {0, 25}, {0, -25}, {Integer.MIN_VALUE, 0},
            {Integer.MAX_VALUE, 0}, {0, Integer.MIN_VALUE}, {0, Integer.MAX_VALUE}};
        for (int[] w : far) {
            CHECK.argument("transpose(" + w[0] + ", " + w[1] + ")", () -> x.transpose(w[0], w[1]));
        }
        CHECK.state("a key of 14", () -> x.transpose(0, 2));
        CHECK.state("a key of -12", () -> x.transpose(1, 0));
        CHECK.state("a step above the octave 8", () -> x.transpose(1, 2));
        CHECK.state("a step below the octave 0", () -> x.transpose(-2, -3));
        CHECK.same("digest() after what throws", before, x.digest());
        x.removeLast(1);
        // The voice 0 could go up, but the sign of the note in the voice 1 would be 3.
        x.addNote(1, 4, 0, 2, 2, 4, false);
        before = x.digest();
        CHECK.state("a sign of 3", () -> x.transpose(0, 1));
        CHECK.same("digest() after a sign of 3", before, x.digest());
        x.removeLast(1);
        x.addNote(1, 4, 0, 2, -2, 4, false);
        CHECK.state("a sign of -3", () -> x.transpose(0, -1));
        x.removeLast(1);
        CHECK.same("down to the tone 0", -2, x.transpose(-1, -2));
        CHECK.same("the tone 0", 0, x.element(0, 0, 4));
        x.setKey(0);
        CHECK.state("a tone less than 0, by the sign alone", () -> x.transpose(0, -1));
        CHECK.state("a step less than 0", () -> x.transpose(-1, -2));
        x.removeLast(0);
        x.addNote(1, 4, 0, 6, 1, 8, false);
        CHECK.state("a step above the octave 8", () -> x.transpose(1, 2));
        x.removeLast(1);
        x.addNote(1, 4, 0, 6, 1, 7, false);
        CHECK.same("a step into the octave 8", 2, x.transpose(1, 2));
        CHECK.pitchIs(x, 1, 0, 0, 2, 8);
        x.removeLast(1);
        x.addRest(0, 4, 0);
        CHECK.same("rests can be transposed by all", 2, x.transpose(14, 24));
        x.addNote(0, 4, 0, 0, 0, 0, false);
        x.removeLast(0);
        CHECK.same("what was removed keeps nothing back", 2, x.transpose(-14, -24));
        // A fifth up and an octave down: many steps, the signs that the key asks for.
        CHECK.same("a fifth up, an octave down", 3, x.transpose(-3, -5));
    }

    private static void keysAtTheEdge() {
        for (int key = -7; key <= 7; key++) {
            for (int steps = -14; steps <= 14; steps++) {
                for (int semitones = -24; semitones <= 24; semitones++) {
                    ScorePress x = new ScorePress();
                    x.setKey(key);
                    int due = key + 7 * semitones - 12 * steps;
                    int s = steps;
                    int t = semitones;
                    String dueText = due < -7 || due > 7 ? "IllegalStateException" : String.valueOf(due);
                    CHECK.sameText("transpose(" + s + ", " + t + ") in the key " + key, dueText,
                        Check.outcome(() -> x.transpose(s, t)));
                }
            }
        }
    }

    private static void faults() {
        CHECK.promise("Promise 16");
        barsNotFilled();
        looseTies();
        parallels();
        parallelsOfTiesAndRests();
        parallelsOfPairs();
    }

    private static void barsNotFilled() {
        ScorePress x = Check.withVoices(3);
        CHECK.same("no bars", 0, x.faults());
        x.addRest(0, 32, 0);
        CHECK.same("one bar, not filled by three voices", 3, x.faults());
        x.addRest(1, 1, 0);
        CHECK.same("filled by one of them", 2, x.faults());
        x.addRest(1, 32, 0);
        CHECK.same("two bars", 5, x.faults());
        x.addRest(2, 1, 2);
        CHECK.same("the voice 2 fills one of them", 4, x.faults());
        x.addRest(2, 4, 0);
        CHECK.same("and both", 3, x.faults());
        x.addVoice();
        CHECK.same("a voice without elements", 5, x.faults());
    }

    private static void looseTies() {
        ScorePress x = Check.withVoices(1);
        x.addNote(0, 4, 0, 0, 0, 4, true);
        CHECK.same("a tied note at the end", 2, x.faults());
        x.addNote(0, 4, 0, 0, 0, 4, true);
        CHECK.same("joined; the next one is loose", 2, x.faults());
        x.addNote(0, 4, 0, 1, 0, 4, true);
        CHECK.same("another tone", 3, x.faults());
        x.addRest(0, 4, 0);
        CHECK.same("a rest; the bar is filled", 2, x.faults());
        x.tie(0, 1, false);
        CHECK.same("one less", 1, x.faults());
        x.addNote(0, 1, 0, 6, 1, 4, true);
        x.addNote(0, 1, 0, 0, 0, 5, false);
        CHECK.same("joined by the tone alone", 1, x.faults());
    }

    private static void parallels() {
        ScorePress x = Check.withVoices(2);
        quarter(x, 0, 0, 4);
        quarter(x, 1, 4, 4); // C G: a fifth, the first tick
        CHECK.same("the first pair", 2, x.faults());
        quarter(x, 0, 1, 4);
        quarter(x, 1, 5, 5); // D A: a fifth and an octave, both upwards
        CHECK.same("fifths upwards", 3, x.faults());
        quarter(x, 0, 0, 4);
        quarter(x, 1, 4, 3); // C G below: 7 by the remainder, both downwards
        CHECK.same("fifths downwards, the voices crossed", 4, x.faults());
        quarter(x, 0, 0, 4);
        quarter(x, 1, 4, 4); // the voice 0 stays
        CHECK.same("one of them stays", 2, x.faults());
        quarter(x, 0, 0, 5);
        quarter(x, 1, 4, 3); // against each other
        CHECK.same("against each other", 4, x.faults());
        quarter(x, 0, 1, 4);
        quarter(x, 1, 1, 3); // an octave: another distance than ahead
        CHECK.same("fifth to octave", 4, x.faults());
        quarter(x, 0, 0, 4);
        quarter(x, 1, 0, 2); // octaves downwards
        CHECK.same("octaves downwards", 5, x.faults());
        quarter(x, 0, 2, 4);
        quarter(x, 1, 6, 3); // 0 to 7
        CHECK.same("octave to fifth; the bar is filled", 3, x.faults());
        parallelLeaps();
        ScorePress y = Check.withVoices(2);
        quarter(y, 0, 0, 4);
        quarter(y, 1, 3, 4);
        quarter(y, 0, 1, 4);
        quarter(y, 1, 4, 4); // fourths are no fault
        CHECK.same("fourths", 2, y.faults());
    }

    /** One voice leaps an octave, so that the distance stays the same, and the other one stays. */
    private static void parallelLeaps() {
        ScorePress x = Check.withVoices(2);
        int[][] octaves = {{4, 4}, {5, 4}, {4, 4}, {4, 5}, {4, 4}, {5, 3}, {4, 4}};
        for (int[] o : octaves) {
            quarter(x, 0, 0, o[0]);
            quarter(x, 1, 4, o[1]);
        }
        CHECK.same("octaves leapt by one voice alone, or apart", 2, x.faults());
        quarter(x, 0, 0, 5);
        quarter(x, 1, 4, 5);
        CHECK.same("an octave leapt by both upwards", 1, x.faults());
        quarter(x, 0, 0, 2);
        quarter(x, 1, 4, 4);
        CHECK.same("leapt by both downwards, too, in a new bar", 1 + 1 + 2, x.faults());
    }

    private static void parallelsOfTiesAndRests() {
        ScorePress x = Check.withVoices(2);
        quarter(x, 0, 0, 4);
        quarter(x, 1, 4, 4);
        x.addRest(0, 4, 0);
        quarter(x, 1, 0, 5); // no pair with a rest
        quarter(x, 0, 1, 4);
        quarter(x, 1, 5, 4);
        CHECK.same("the earlier pair is ahead of the rest", 3, x.faults());
        x.addNote(0, 8, 0, 2, 0, 4, false);
        x.addNote(0, 8, 0, 6, 0, 3, false); // no pair with a note that goes on
        quarter(x, 1, 6, 4);
        CHECK.same("a note of each must begin", 2, x.faults());

        ScorePress y = Check.withVoices(2);
        quarter(y, 0, 0, 4);
        y.addNote(1, 4, 0, 4, 0, 4, true);
        quarter(y, 0, 2, 4);
        y.addNote(1, 4, 0, 4, 0, 4, false); // a joined note is a note that begins
        quarter(y, 0, 1, 4);
        quarter(y, 1, 5, 4);
        CHECK.same("the joined note makes the earlier pair", 2, y.faults());
    }

    private static void parallelsOfPairs() {
        ScorePress x = Check.withVoices(4);
        for (int v = 0; v < 4; v++) {
            quarter(x, v, 0, v + 1);
            quarter(x, v, 1, v + 1);
        }
        CHECK.same("six pairs of voices", 4 + 6, x.faults());
        x.removeLast(3);
        x.addRest(3, 4, 0);
        CHECK.same("three pairs of voices", 4 + 3, x.faults());
    }

    private static void interval() {
        CHECK.promise("Promise 17");
        ScorePress x = Check.withVoices(3);
        quarter(x, 0, 0, 4);
        x.addRest(0, 4, 0);
        quarter(x, 0, 4, 4);
        x.addNote(1, 1, 0, 2, -1, 3, false);
        int[][] due = {{0, -9}, {95, -9}, {96, -100}, {191, -100}, {192, -16}, {287, -16},
            {288, -100}, {Integer.MAX_VALUE, -100}};
        for (int[] d : due) {
            CHECK.same("interval(0, 1, " + d[0] + ")", d[1], x.interval(0, 1, d[0]));
            int back = d[1] == -100 ? -100 : -d[1];
            CHECK.same("interval(1, 0, " + d[0] + ")", back, x.interval(1, 0, d[0]));
        }
        CHECK.same("a voice without elements", -100, x.interval(0, 2, 0));
        CHECK.same("a voice with itself", 0, x.interval(1, 1, 383));
        CHECK.same("an ended voice with itself", -100, x.interval(1, 1, 384));
        CHECK.same("a tied piece", 0, x.interval(1, 1, 10));
        CHECK.index("no voice a", () -> x.interval(3, 0, 0));
        CHECK.index("no voice b", () -> x.interval(0, 3, 0));
        CHECK.index("no voice a below 0", () -> x.interval(-1, 0, 0));
        CHECK.index("no voice b below 0", () -> x.interval(0, -1, 0));
        CHECK.index("the voices come first", () -> x.interval(0, 4, -1));
        CHECK.argument("a tick less than 0", () -> x.interval(0, 1, -1));
        CHECK.argument("a far tick", () -> x.interval(0, 1, Integer.MIN_VALUE));
    }

    public static void main(String[] arguments) {
        transpose();
        faults();
        interval();
        CHECK.end();
    }
}
