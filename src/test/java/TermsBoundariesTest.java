import java.util.Arrays;

/** The boundary cases of the document's "Terms", a test for each of its sentences. */
public final class TermsBoundariesTest {
    private static final Check CHECK = new Check();

    private static ScorePress inBars(int voices, int beats, int part) {
        ScorePress x = Check.withVoices(voices);
        x.setBars(beats, part);
        return x;
    }

    private static void note(ScorePress x, int voice, int part, int step, int sign, int octave) {
        x.addNote(voice, part, 0, step, sign, octave, false);
    }

    private static void tied(ScorePress x, int part, int step, int sign, int octave) {
        x.addNote(0, part, 0, step, sign, octave, true);
    }

    private static void rests(ScorePress x, int voice, int count, int part) {
        for (int i = 0; i < count; i++) {
            x.addRest(voice, part, 0);
        }
    }

    // ---- time

    private static void wholeNote() {
        CHECK.promise("A whole note has 384 ticks");
        ScorePress x = Check.withVoices(1);
        CHECK.same("ticks(1, 0)", 384, x.ticks(1, 0));
        x.addRest(0, 1, 0);
        CHECK.same("element(0, 0, 1)", 384, x.element(0, 0, 1));
    }

    private static void parts() {
        CHECK.promise("A value is a whole note, or a part 2, 4, 8, 16 or 32 of it, with 0, 1 or 2 dots");
        ScorePress x = new ScorePress();
        int[] parts = {1, 2, 4, 8, 16, 32};
        for (int part = -40; part <= 400; part++) {
            int p = part;
            boolean isPart = Arrays.binarySearch(parts, p) >= 0;
            String due = isPart ? String.valueOf(384 / p) : "IllegalArgumentException";
            CHECK.sameText("ticks(" + p + ", 0)", due, Check.outcome(() -> x.ticks(p, 0)));
        }
    }

    private static void dots() {
        CHECK.promise("A dot adds a half of this, two dots a half and a quarter");
        ScorePress x = new ScorePress();
        CHECK.same("ticks(1, 1)", 384 + 192, x.ticks(1, 1));
        CHECK.same("ticks(1, 2)", 384 + 192 + 96, x.ticks(1, 2));
        CHECK.same("ticks(8, 1)", 48 + 24, x.ticks(8, 1));
        CHECK.same("ticks(8, 2)", 48 + 24 + 12, x.ticks(8, 2));
        CHECK.argument("ticks(1, 3)", () -> x.ticks(1, 3));
        CHECK.argument("ticks(8, 3)", () -> x.ticks(8, 3));
        CHECK.argument("ticks(1, -1)", () -> x.ticks(1, -1));
    }

    private static void dotsOfShortParts() {
        CHECK.promise("32 has no dots, 16 at most 1");
        ScorePress x = new ScorePress();
        CHECK.same("ticks(32, 0)", 12, x.ticks(32, 0));
        CHECK.argument("ticks(32, 1)", () -> x.ticks(32, 1));
        CHECK.argument("ticks(32, 2)", () -> x.ticks(32, 2));
        CHECK.same("ticks(16, 1)", 36, x.ticks(16, 1));
        CHECK.argument("ticks(16, 2)", () -> x.ticks(16, 2));
    }

    private static void beats() {
        CHECK.promise("A bar has a number of beats, 1 to 12, each of a part 2, 4 or 8");
        ScorePress x = new ScorePress();
        CHECK.same("the shortest bar", 48, x.setBars(1, 8));
        CHECK.same("the longest bar", 2304, x.setBars(12, 2));
        CHECK.same("1 beat of the part 2", 192, x.setBars(1, 2));
        CHECK.same("12 beats of the part 4", 1152, x.setBars(12, 4));
        CHECK.argument("0 beats", () -> x.setBars(0, 2));
        CHECK.argument("13 beats", () -> x.setBars(13, 2));
        CHECK.argument("the part 1", () -> x.setBars(4, 1));
        CHECK.argument("the part 16", () -> x.setBars(4, 16));
    }

    private static void firstBars() {
        CHECK.promise("4 beats of the part 4, at first");
        ScorePress x = Check.withVoices(1);
        CHECK.same("score(1)", 384, x.score(1));
        x.addNote(0, 8, 0, 0, 0, 4, false);
        x.addNote(0, 8, 0, 0, 0, 4, false);
        x.addNote(0, 8, 0, 0, 0, 4, false);
        CHECK.row(x, "beams of the part 4", 8, 0, 0, -1);
    }

    private static void sameBars() {
        CHECK.promise("The same for all bars; bars are numbered from 0; the last one is 99");
        ScorePress x = inBars(2, 1, 8);
        for (int bar = 0; bar < 100; bar++) {
            CHECK.same("a rest as long as the bar " + bar, 1, x.addRest(0, 8, 0));
            CHECK.same("its bar", bar, x.element(0, bar, 6));
        }
        CHECK.state("a rest in the bar 100", () -> x.addRest(0, 32, 0));
        CHECK.same("bars", 100, x.score(3));
        CHECK.same("the bar of the voice 1", 1, x.addNote(1, 32, 0, 0, 0, 4, false));
        CHECK.same("element(1, 0, 6)", 0, x.element(1, 0, 6));
    }

    private static void cutDivision() {
        CHECK.promise("What is said to be divided is cut towards 0");
        ScorePress x = new ScorePress();
        CHECK.same("625000 / 400 = 1562.5", 1562, x.time(1, 400));
        CHECK.same("625000 / 399 = 1566.4..", 1566, x.time(1, 399));
        CHECK.same("2 * 625000 / 399 = 3132.8..", 3132, x.time(2, 399));
    }

    // ---- pitches

    private static void pitches() {
        CHECK.promise("A pitch has a step, 0 to 6 (C to B), a sign, -2 to 2, and an octave, 0 to 8");
        int[] steps = {0, 2, 4, 5, 7, 9, 11};
        for (int octave = -1; octave <= 9; octave++) {
            for (int step = -1; step <= 7; step++) {
                ScorePress x = Check.withVoices(1);
                for (int sign = -3; sign <= 3; sign++) {
                    boolean isIn = step >= 0 && step <= 6 && sign >= -2 && sign <= 2 && octave >= 0 && octave <= 8;
                    int tone = isIn ? 12 * octave + steps[step] + sign : -1;
                    pitch(x, step, sign, octave, tone);
                }
            }
        }
    }

    private static void pitch(ScorePress x, int step, int sign, int octave, int tone) {
        String name = "the pitch " + step + ", " + sign + ", " + octave;
        String due = tone < 0 ? "IllegalArgumentException" : "1";
        CHECK.sameText(name, due, Check.outcome(() -> x.addNote(0, 32, 0, step, sign, octave, false)));
        if (tone >= 0) {
            CHECK.same(name + ": its tone", tone, x.element(0, x.voice(0, 0) - 1, 4));
        }
    }

    private static void leastTones() {
        CHECK.promise("What would have a tone less than 0 is no pitch");
        ScorePress x = Check.withVoices(1);
        CHECK.argument("the tone -1", () -> x.addNote(0, 4, 0, 0, -1, 0, false));
        CHECK.argument("the tone -2", () -> x.addNote(0, 4, 0, 0, -2, 0, false));
        note(x, 0, 4, 0, 0, 0);
        note(x, 0, 4, 1, -2, 0);
        note(x, 0, 4, 1, -1, 0);
        CHECK.row(x, "the tones 0 and 1 are pitches", 4, 0, 0, 1);
        CHECK.same("the tone 0 is a sound", 3, x.voice(0, 2));
        CHECK.same("the tone 0 has a sign", -2, x.pitch(0, 1, 1));
        CHECK.same("the tone 0 can be tied", false, x.tie(0, 0, true));
        CHECK.same("two notes of the tone 0 are joined", 2, x.voice(0, 2));
    }

    private static void keys() {
        CHECK.promise("The key is -7 to 7 (0, at first)");
        ScorePress x = new ScorePress();
        CHECK.same("setKey(7)", 0, x.setKey(7));
        CHECK.same("setKey(-7)", 7, x.setKey(-7));
        CHECK.argument("setKey(8)", () -> x.setKey(8));
        CHECK.argument("setKey(-8)", () -> x.setKey(-8));
        CHECK.same("score(2)", -7, x.score(2));
    }

    private static void keySigns(int key, int... due) {
        ScorePress x = new ScorePress();
        x.setKey(key);
        for (int step = 0; step <= 6; step++) {
            CHECK.same("sign(" + step + ") in the key " + key, due[step], x.sign(step));
        }
    }

    private static void sharpKeys() {
        CHECK.promise("For n > 0 the first n of the steps F C G D A E B have the sign 1");
        keySigns(0, 0, 0, 0, 0, 0, 0, 0);
        keySigns(1, 0, 0, 0, 1, 0, 0, 0);
        keySigns(2, 1, 0, 0, 1, 0, 0, 0);
        keySigns(6, 1, 1, 1, 1, 1, 1, 0);
        keySigns(7, 1, 1, 1, 1, 1, 1, 1);
    }

    private static void flatKeys() {
        CHECK.promise("For n < 0 the first -n of B E A D G C F have -1; all others 0");
        keySigns(-1, 0, 0, 0, 0, 0, 0, -1);
        keySigns(-2, 0, 0, -1, 0, 0, 0, -1);
        keySigns(-6, -1, -1, -1, 0, -1, -1, -1);
        keySigns(-7, -1, -1, -1, -1, -1, -1, -1);
    }

    // ---- voices

    private static void fourVoices() {
        CHECK.promise("There are at most 4 voices, numbered from 0");
        ScorePress x = new ScorePress();
        for (int v = 0; v < 4; v++) {
            int number = v;
            CHECK.index("voice(" + v + ", 0) ahead of it", () -> x.voice(number, 0));
            CHECK.same("addVoice()", v, x.addVoice());
        }
        CHECK.state("the fifth addVoice()", x::addVoice);
        CHECK.index("voice(4, 0)", () -> x.voice(4, 0));
        CHECK.same("a note in the voice 3", 1, x.addNote(3, 4, 0, 0, 0, 4, false));
    }

    private static void fromTickZero() {
        CHECK.promise("A voice is a row of elements, one behind the other, from the tick 0 on");
        ScorePress x = Check.withVoices(2);
        note(x, 0, 1, 0, 0, 4);
        note(x, 1, 8, 0, 0, 4);
        CHECK.same("the first one of another voice begins at 0", 0, x.element(1, 0, 0));
        note(x, 1, 32, 0, 0, 4);
        CHECK.same("the next one begins at its end", 48, x.element(1, 1, 0));
        x.removeLast(0);
        x.addRest(0, 4, 0);
        CHECK.same("the first one of an emptied voice begins at 0", 0, x.element(0, 0, 0));
    }

    private static void mostElements() {
        CHECK.promise("At most 200 elements");
        ScorePress x = Check.withVoices(2);
        for (int i = 0; i < 200; i++) {
            CHECK.same("the element " + i, 1, x.addNote(0, 32, 0, 0, 0, 4, false));
        }
        CHECK.state("the element 200", () -> x.addNote(0, 32, 0, 0, 0, 4, false));
        CHECK.same("200 elements", 200, x.voice(0, 0));
        CHECK.same("the last one's beginning", 199 * 12, x.element(0, 199, 0));
        CHECK.same("200 sounds", 200, x.voice(0, 2));
        CHECK.same("25 beams of 8 notes", 25, x.voice(0, 3));
        CHECK.same("the last one's beam", 24, x.element(0, 199, 8));
        CHECK.same("400 events", 400, x.events());
        CHECK.same("the last event", 2400, x.event(399, 0));
        CHECK.same("the voice 1 has its own 200", 1, x.addRest(1, 32, 0));
    }

    private static void mostElementsByPieces() {
        CHECK.promise("At most 200 elements, each piece counted");
        ScorePress x = inBars(1, 1, 8);
        x.addRest(0, 32, 0);
        // 672 ticks in bars of 48, from the tick 12 on: 36, 13 times 48, 12.
        for (int i = 0; i < 7; i++) {
            CHECK.same("pieces", 15, x.addNote(0, 1, 2, 0, 0, 4, false));
        }
        CHECK.same("elements", 106, x.voice(0, 0));
        ScorePress y = inBars(1, 5, 8);
        y.addRest(0, 32, 0);
        // From the tick 12 on 228 are left in the bar: 192 and 36; then 12.
        int made = 1;
        while (made <= 197) {
            CHECK.same("pieces", 3, y.addNote(0, 2, 0, 0, 0, 4, false) + y.addRest(0, 16, 1) + y.addRest(0, 32, 0));
            made += 3;
        }
        CHECK.same("elements", 199, y.voice(0, 0));
        CHECK.state("four pieces, up to the element 203", () -> y.addNote(0, 2, 2, 0, 0, 4, false));
        CHECK.same("one piece, the element 200", 1, y.addNote(0, 2, 0, 0, 0, 4, false));
        CHECK.same("elements", 200, y.voice(0, 0));
    }

    private static void tiedToNothing() {
        CHECK.promise("A note can be tied to the next element");
        ScorePress x = Check.withVoices(1);
        tied(x, 4, 0, 0, 4);
        CHECK.same("the last note is tied", 1, x.element(0, 0, 5));
        CHECK.same("it is joined to nothing", 1, x.voice(0, 2));
        x.addRest(0, 4, 0);
        CHECK.same("it stays tied ahead of a rest", 1, x.element(0, 0, 5));
        CHECK.same("a rest is not tied", 0, x.element(0, 1, 5));
        x.removeLast(0);
        CHECK.same("it stays tied when the rest is gone", 1, x.element(0, 0, 5));
    }

    private static void beginnings() {
        CHECK.promise("The ticks of all elements ahead of it are its beginning");
        ScorePress x = Check.withVoices(1);
        x.addRest(0, 32, 0);
        x.addNote(0, 16, 1, 0, 0, 4, false);
        x.addNote(0, 1, 2, 0, 0, 4, false);
        CHECK.row(x, "beginnings", 0, 0, 12, 48, 384);
    }

    // ---- adding

    private static void upToBarEnd() {
        CHECK.promise("Put in as one element, if it ends in the bar in which it begins (or at its end)");
        ScorePress x = Check.withVoices(1);
        CHECK.same("a whole bar", 1, x.addNote(0, 1, 0, 0, 0, 4, false));
        CHECK.same("ahead of the end", 1, x.addNote(0, 2, 2, 0, 0, 4, false));
        CHECK.same("48 at the end", 1, x.addNote(0, 8, 0, 0, 0, 4, false));
        x.addRest(0, 2, 2);
        CHECK.same("60 ahead of the end: 12 too long", 2, x.addNote(0, 8, 1, 0, 0, 4, false));
        CHECK.row(x, "ticks", 1, 384, 336, 48, 336, 48, 24);
        CHECK.row(x, "bars", 6, 0, 1, 1, 2, 2, 3);
    }

    private static void leastOverhang() {
        CHECK.promise("Otherwise it is cut at the end of each bar: 12 ticks behind it, 12 ahead of it");
        ScorePress x = inBars(1, 3, 8);
        x.addRest(0, 32, 0);
        CHECK.same("12 behind the bar", 3, x.addRest(0, 4, 1));
        CHECK.row(x, "ticks", 1, 12, 96, 36, 12);
        CHECK.same("12 ahead of its end", 1, x.addRest(0, 4, 0));
        CHECK.same("36 up to the end, 12 behind it", 2, x.addNote(0, 8, 0, 0, 0, 4, false));
        CHECK.row(x, "ticks", 1, 12, 96, 36, 12, 96, 36, 12);
    }

    private static void manyBars() {
        CHECK.promise("Otherwise it is cut at the end of each bar: many bars");
        ScorePress x = inBars(1, 1, 8);
        CHECK.same("672 in bars of 48", 14, x.addNote(0, 1, 2, 0, 0, 4, false));
        for (int i = 0; i < 14; i++) {
            CHECK.same("bar of the piece " + i, i, x.element(0, i, 6));
            CHECK.same("ticks of the piece " + i, 48, x.element(0, i, 1));
            CHECK.same("tie of the piece " + i, i < 13 ? 1 : 0, x.element(0, i, 5));
        }
        CHECK.same("one sound", 1, x.voice(0, 2));
        CHECK.same("it ends with the last piece", 672, x.event(1, 0));
    }

    public static void main(String[] arguments) {
        wholeNote();
        parts();
        dots();
        dotsOfShortParts();
        beats();
        firstBars();
        sameBars();
        cutDivision();
        pitches();
        leastTones();
        keys();
        sharpKeys();
        flatKeys();
        fourVoices();
        fromTickZero();
        mostElements();
        mostElementsByPieces();
        tiedToNothing();
        beginnings();
        upToBarEnd();
        leastOverhang();
        manyBars();
        CHECK.end();
    }
}
