/** Promises 8 to 14: elements. */
public final class ElementsTest {
    private static final Check CHECK = new Check();

    private static void addNote() {
        CHECK.promise("Promise 8");
        ScorePress x = Check.withVoices(2);
        CHECK.same("a note up to the bar's end", 1, x.addNote(0, 1, 0, 0, 0, 4, true));
        CHECK.same("a note in its bar", 1, x.addNote(0, 2, 2, 6, -1, 4, false));
        CHECK.same("the voice 1 stays empty", 0, x.voice(1, 0));
        CHECK.row(x, "beginning", 0, 0, 384);
        CHECK.row(x, "tied", 5, 1, 0);
        CHECK.row(x, "tone", 4, 48, 58);
        // 48 ticks are left in the bar: 48, then the bar of 384, then 240 as 192 and 48.
        CHECK.same("a note over three bars", 4, x.addNote(0, 1, 2, 3, 1, 5, false));
        CHECK.row(x, "beginnings", 0, 0, 384, 720, 768, 1152, 1344);
        CHECK.row(x, "ticks", 1, 384, 336, 48, 384, 192, 48);
        CHECK.row(x, "parts", 2, 1, 2, 8, 1, 2, 8);
        CHECK.row(x, "dots", 3, 0, 2, 0, 0, 0, 0);
        CHECK.row(x, "tones", 4, 48, 58, 66, 66, 66, 66);
        CHECK.row(x, "tied", 5, 1, 0, 1, 1, 1, 0);
        CHECK.row(x, "bars", 6, 0, 1, 1, 2, 3, 3);
        CHECK.same("end", 1392, x.voice(0, 1));
        cutPieces();
        wrongNotes();
        limits();
    }

    private static void cutPieces() {
        ScorePress x = Check.withVoices(1);
        x.setBars(1, 8);
        x.addRest(0, 32, 0);
        CHECK.same("cut in bars of 48", 3, x.addNote(0, 4, 0, 1, 0, 4, true));
        CHECK.row(x, "ticks", 1, 12, 36, 48, 12);
        CHECK.row(x, "parts", 2, 32, 16, 8, 32);
        CHECK.row(x, "dots", 3, 0, 1, 0, 0);
        CHECK.row(x, "tied", 5, 0, 1, 1, 1);
        ScorePress y = Check.withVoices(1);
        // 12 * 48 = 576 ticks: a whole note with a dot fits exactly, one with two dots does not.
        y.setBars(12, 8);
        CHECK.same("a bar filled by one element", 1, y.addNote(0, 1, 1, 0, 0, 4, false));
        CHECK.same("a bar and 96", 2, y.addNote(0, 1, 2, 0, 0, 4, false));
        CHECK.row(y, "ticks", 1, 576, 576, 96);
        ScorePress z = Check.withVoices(1);
        z.setBars(5, 4);
        z.addRest(0, 2, 0);
        z.addRest(0, 16, 0);
        // 264 of 480 are left in the bar: 192 and 72; then 312: 288 and 24.
        CHECK.same("greatest values, with their dots", 4, z.addNote(0, 1, 1, 0, 0, 4, false));
        CHECK.row(z, "ticks", 1, 192, 24, 192, 72, 288, 24);
        ScorePress w = Check.withVoices(1);
        w.setBars(5, 8);
        // 240 in a bar: 192 and 48; then 144 as one value with a dot.
        CHECK.same("pieces ahead of the bar's end", 3, w.addNote(0, 1, 0, 0, 0, 4, false));
        CHECK.row(w, "ticks", 1, 192, 48, 144);
        CHECK.row(w, "dots", 3, 0, 0, 1);
    }

    private static void wrongNotes() {
        ScorePress x = Check.withVoices(1);
        long before = x.digest();
        int[] voices = {-1, 1, 4, Integer.MIN_VALUE, Integer.MAX_VALUE};
        for (int v : voices) {
            CHECK.index("addNote in the voice " + v, () -> x.addNote(v, 4, 0, 0, 0, 4, false));
            CHECK.index("the voice comes first", () -> x.addNote(v, 3, 0, 9, 0, 4, false));
        }
        int[][] values = {{0, 0}, {3, 0}, {64, 0}, {-4, 0}, {4, 3}, {4, -1}, {16, 2}, {32, 1}};
        for (int[] w : values) {
            CHECK.argument("no value " + w[0] + ", " + w[1],
                () -> x.addNote(0, w[0], w[1], 0, 0, 4, false));
        }
        int far = Integer.MAX_VALUE;
        int[][] pitches = {{-1, 0, 4}, {7, 0, 4}, {0, -3, 4}, {0, 3, 4}, {0, 0, -1}, {0, 0, 9},
            {0, -1, 0}, {0, -2, 0}, {far, 0, 4}, {0, far, 4}, {0, 0, far}, {-far - 1, 0, 4},
            {0, -far - 1, 4}, {0, 0, -far - 1}};
        for (int[] w : pitches) {
            CHECK.argument("no pitch " + w[0] + ", " + w[1] + ", " + w[2],
                () -> x.addNote(0, 4, 0, w[0], w[1], w[2], false));
        }
        CHECK.same("digest() after what throws", before, x.digest());
        CHECK.same("the tone 0", 1, x.addNote(0, 4, 0, 1, -2, 0, false));
        CHECK.same("element(0, 0, 4)", 0, x.element(0, 0, 4));
        CHECK.same("the greatest tone", 1, x.addNote(0, 4, 0, 6, 2, 8, false));
        CHECK.same("element(0, 1, 4)", 109, x.element(0, 1, 4));
    }

    private static void limits() {
        ScorePress x = Check.withVoices(2);
        for (int i = 0; i < 199; i++) {
            x.addNote(0, 32, 0, i % 7, 0, 4, false);
        }
        // 2388 ticks are 6 bars and 84: 300 are left in the bar, so a whole note is cut.
        long before = x.digest();
        CHECK.state("more than 200 elements", () -> x.addNote(0, 1, 0, 0, 0, 4, false));
        CHECK.argument("a wrong value comes first", () -> x.addNote(0, 5, 0, 0, 0, 4, false));
        CHECK.argument("a wrong pitch comes first", () -> x.addNote(0, 1, 0, 7, 0, 4, false));
        CHECK.same("digest() after what throws", before, x.digest());
        CHECK.same("the element 199", 1, x.addNote(0, 2, 1, 0, 0, 4, false));
        CHECK.state("the element 200", () -> x.addNote(0, 32, 0, 0, 0, 4, false));
        CHECK.same("200 elements", 200, x.voice(0, 0));
        CHECK.same("another voice has room", 1, x.addNote(1, 4, 0, 0, 0, 4, false));

        ScorePress y = Check.withVoices(1);
        for (int bar = 0; bar < 99; bar++) {
            y.addNote(0, 1, 0, 0, 0, 4, false);
        }
        y.addNote(0, 2, 1, 0, 0, 4, false);
        CHECK.state("an end behind the bar 99", () -> y.addNote(0, 4, 1, 0, 0, 4, false));
        CHECK.argument("a wrong pitch comes first", () -> y.addNote(0, 4, 1, 0, 0, 9, false));
        CHECK.same("an end at the end of the bar 99", 1, y.addNote(0, 4, 0, 0, 0, 4, false));
        CHECK.same("end", 38400, y.voice(0, 1));
        CHECK.same("bar of the last element", 99, y.element(0, 100, 6));
        CHECK.state("behind the bar 99", () -> y.addNote(0, 32, 0, 0, 0, 4, false));
    }

    private static void addRest() {
        CHECK.promise("Promise 9");
        ScorePress x = Check.withVoices(1);
        x.setBars(3, 8);
        CHECK.same("a rest", 1, x.addRest(0, 8, 0));
        CHECK.same("a rest that is cut", 3, x.addRest(0, 2, 1));
        CHECK.row(x, "beginnings", 0, 0, 48, 144, 288);
        CHECK.row(x, "ticks", 1, 48, 96, 144, 48);
        CHECK.row(x, "tones", 4, -1, -1, -1, -1);
        CHECK.row(x, "tied", 5, 0, 0, 0, 0);
        CHECK.row(x, "shown", 7, 0, 0, 0, 0);
        CHECK.row(x, "beams", 8, -1, -1, -1, -1);
        long before = x.digest();
        CHECK.index("no voice", () -> x.addRest(1, 4, 0));
        CHECK.index("no voice below 0", () -> x.addRest(-1, 4, 0));
        CHECK.index("the voice comes first", () -> x.addRest(7, 5, 0));
        CHECK.argument("no part", () -> x.addRest(0, 5, 0));
        CHECK.argument("no dots", () -> x.addRest(0, 16, 2));
        CHECK.argument("no part 0", () -> x.addRest(0, 0, 0));
        CHECK.same("digest() after what throws", before, x.digest());
        for (int i = 4; i < 200; i++) {
            x.addRest(0, 32, 0);
        }
        CHECK.state("more than 200 elements", () -> x.addRest(0, 32, 0));
        CHECK.argument("no value comes first", () -> x.addRest(0, 32, 1));
        ScorePress y = Check.withVoices(1);
        y.setBars(1, 2);
        for (int bar = 0; bar < 100; bar++) {
            y.addRest(0, 2, 0);
        }
        CHECK.state("behind the bar 99", () -> y.addRest(0, 32, 0));
        y.removeLast(0);
        CHECK.state("behind the bar 99, cut", () -> y.addRest(0, 2, 1));
        CHECK.same("the bar 99", 1, y.addRest(0, 2, 0));
        CHECK.same("bars", 100, y.score(3));
    }

    private static void removeLast() {
        CHECK.promise("Promise 10");
        ScorePress x = Check.withVoices(2);
        x.addNote(0, 4, 0, 0, 1, 4, true);
        x.addNote(0, 1, 0, 0, 1, 4, true);
        x.addRest(1, 4, 0);
        CHECK.same("elements", 3, x.voice(0, 0));
        CHECK.same("removeLast(0) takes one piece", 2, x.removeLast(0));
        CHECK.same("the end then", 384, x.voice(0, 1));
        CHECK.same("the piece ahead stays tied", 1, x.element(0, 1, 5));
        CHECK.index("element(0, 2, 0)", () -> x.element(0, 2, 0));
        CHECK.same("the greatest tone", 49, x.voice(0, 5));
        CHECK.same("removeLast(0)", 1, x.removeLast(0));
        CHECK.same("removeLast(0)", 0, x.removeLast(0));
        CHECK.state("removeLast(0) without elements", () -> x.removeLast(0));
        CHECK.same("the other voice stays", 1, x.voice(1, 0));
        CHECK.same("no tone", -1, x.voice(0, 5));
        int[] wrong = {-1, 2, Integer.MIN_VALUE, Integer.MAX_VALUE};
        for (int v : wrong) {
            CHECK.index("removeLast(" + v + ")", () -> x.removeLast(v));
        }
        x.addNote(0, 8, 0, 1, 0, 4, false);
        CHECK.same("the voice goes on from the tick 0", 0, x.element(0, 0, 0));
        x.addNote(0, 8, 0, 0, 2, 3, true);
        CHECK.same("the least tone", 38, x.voice(0, 6));
        x.removeLast(0);
        CHECK.same("the least tone without it", 50, x.voice(0, 6));
        x.addRest(0, 8, 0);
        CHECK.same("a rest in its place is not tied", 0, x.element(0, 1, 5));
        CHECK.same("a rest in its place shows no sign", 0, x.element(0, 1, 7));
        CHECK.same("a rest in its place has no tone", -1, x.element(0, 1, 4));
        CHECK.same("a rest in its place has no beam", -1, x.element(0, 1, 8));
    }

    private static void tie() {
        CHECK.promise("Promise 11");
        ScorePress x = Check.withVoices(1);
        x.addNote(0, 4, 0, 0, 0, 4, false);
        x.addNote(0, 4, 0, 0, 0, 4, true);
        x.addRest(0, 4, 0);
        CHECK.same("sounds", 2, x.voice(0, 2));
        CHECK.same("tie(0, 0, true)", false, x.tie(0, 0, true));
        CHECK.same("element(0, 0, 5)", 1, x.element(0, 0, 5));
        CHECK.same("sounds", 1, x.voice(0, 2));
        CHECK.same("events", 2, x.events());
        CHECK.same("tie(0, 0, true) again", true, x.tie(0, 0, true));
        CHECK.same("tie(0, 0, false)", true, x.tie(0, 0, false));
        CHECK.same("tie(0, 0, false) again", false, x.tie(0, 0, false));
        CHECK.same("element(0, 0, 5)", 0, x.element(0, 0, 5));
        CHECK.same("tie(0, 1, false)", true, x.tie(0, 1, false));
        long before = x.digest();
        CHECK.state("a rest", () -> x.tie(0, 2, true));
        CHECK.state("a rest, untied", () -> x.tie(0, 2, false));
        CHECK.index("no element", () -> x.tie(0, 3, true));
        CHECK.index("no element below 0", () -> x.tie(0, -1, true));
        CHECK.index("no voice", () -> x.tie(1, 0, true));
        CHECK.index("no voice below 0", () -> x.tie(-1, 0, true));
        CHECK.index("far", () -> x.tie(Integer.MAX_VALUE, Integer.MIN_VALUE, true));
        CHECK.same("digest() after what throws", before, x.digest());
    }

    private static void element() {
        CHECK.promise("Promise 12");
        ScorePress x = Check.withVoices(1);
        x.addNote(0, 8, 2, 4, 1, 3, true);
        x.addRest(0, 32, 0);
        int[][] due = {{0, 84, 8, 2, 44, 1, 0, 1, -1}, {84, 12, 32, 0, -1, 0, 0, 0, -1}};
        for (int i = 0; i < due.length; i++) {
            for (int what = 0; what <= 8; what++) {
                CHECK.same("element(0, " + i + ", " + what + ")", due[i][what], x.element(0, i, what));
            }
        }
        int[] wrong = {-1, 9, Integer.MIN_VALUE, Integer.MAX_VALUE};
        for (int what : wrong) {
            CHECK.index("element(0, 0, " + what + ")", () -> x.element(0, 0, what));
        }
        CHECK.index("no element", () -> x.element(0, 2, 0));
        CHECK.index("no element below 0", () -> x.element(0, -1, 0));
        CHECK.index("no voice", () -> x.element(1, 0, 0));
        CHECK.index("no voice below 0", () -> x.element(-1, 0, 0));
        shownSigns();
        joinedSigns();
        beams();
        beamsByBeat();
    }

    private static void shownSigns() {
        ScorePress x = Check.withVoices(1);
        x.setKey(1);
        x.addNote(0, 4, 0, 3, 1, 4, false); // the key's sign
        x.addNote(0, 4, 0, 3, 0, 4, false); // another one
        x.addNote(0, 4, 0, 3, 0, 4, false); // it holds
        x.addNote(0, 8, 0, 3, 0, 5, false); // not in another octave
        x.addNote(0, 8, 0, 3, 1, 4, false); // back
        x.addNote(0, 4, 0, 3, 0, 4, false); // a new bar has the key's again
        x.addRest(0, 2, 0);
        x.addNote(0, 4, 0, 3, 0, 4, false); // rests end nothing
        x.addNote(0, 4, 0, 3, 1, 4, false); // the key's, in the next bar
        x.addNote(0, 4, 0, 6, -1, 4, false);
        x.addNote(0, 4, 0, 6, -2, 4, false);
        x.addNote(0, 4, 0, 5, 1, 4, false); // the same tone as B flat, but another step
        CHECK.row(x, "shown", 7, 0, 1, 0, 1, 1, 1, 0, 0, 0, 1, 1, 1);
        CHECK.same("voice(0, 4)", 7, x.voice(0, 4));
    }

    private static void joinedSigns() {
        ScorePress x = Check.withVoices(1);
        x.addNote(0, 2, 1, 0, 0, 4, false);
        x.addNote(0, 2, 0, 0, 1, 4, true); // 96 ticks, and 96 in the next bar, joined
        x.addNote(0, 8, 0, 1, -1, 4, false); // joined, too: the same tone by another step
        x.addNote(0, 8, 0, 0, 1, 4, false); // the sign of a joined note holds
        x.addNote(0, 8, 0, 1, -1, 4, true); // holds behind the joined note
        x.addNote(0, 8, 0, 1, 0, 4, false); // tied, but not joined
        CHECK.row(x, "shown", 7, 0, 1, 0, 0, 0, 0, 1);
        x.tie(0, 1, false);
        CHECK.row(x, "shown without the tie", 7, 0, 1, 1, 0, 0, 0, 1);
    }

    private static void beams() {
        ScorePress x = Check.withVoices(1);
        x.addNote(0, 8, 0, 0, 0, 4, false);
        x.addNote(0, 8, 0, 0, 0, 4, false);
        x.addNote(0, 8, 0, 0, 0, 4, false); // alone in its beat, with a rest
        x.addRest(0, 8, 0);
        x.addNote(0, 8, 1, 0, 0, 4, false);
        x.addNote(0, 16, 0, 0, 0, 4, false);
        x.addNote(0, 16, 0, 0, 0, 4, false);
        x.addNote(0, 32, 0, 0, 0, 4, false);
        x.addRest(0, 32, 0);
        x.addNote(0, 16, 0, 0, 0, 4, false);
        x.addNote(0, 16, 0, 0, 0, 4, false);
        x.addNote(0, 4, 0, 0, 0, 4, false); // no beam with the part 4
        x.addNote(0, 16, 1, 0, 0, 4, false);
        x.addNote(0, 8, 0, 0, 0, 4, false);
        x.addNote(0, 32, 0, 0, 0, 4, false);
        CHECK.row(x, "beams", 8, 0, 0, -1, -1, 1, 1, 2, 2, -1, 3, 3, -1, 4, 4, 4);
        CHECK.same("voice(0, 3)", 5, x.voice(0, 3));
        x.removeLast(0);
        x.removeLast(0);
        CHECK.row(x, "beams then", 8, 0, 0, -1, -1, 1, 1, 2, 2, -1, 3, 3, -1, -1);
        CHECK.same("voice(0, 3) then", 4, x.voice(0, 3));
    }

    private static void beamsByBeat() {
        ScorePress x = Check.withVoices(1);
        x.setBars(3, 8); // beats of 48
        for (int i = 0; i < 4; i++) {
            x.addNote(0, 8, 0, 0, 0, 4, false);
        }
        x.addNote(0, 16, 0, 0, 0, 4, false);
        x.addNote(0, 16, 0, 0, 0, 4, false);
        CHECK.row(x, "beams in beats of 48", 8, -1, -1, -1, -1, 0, 0);
        ScorePress y = Check.withVoices(1);
        y.setBars(1, 2); // beats of 192, one in a bar
        for (int i = 0; i < 6; i++) {
            y.addNote(0, 8, 0, 0, 0, 4, true);
        }
        CHECK.row(y, "beams in bars of one beat", 8, 0, 0, 0, 0, 1, 1);
        ScorePress z = Check.withVoices(1);
        z.setBars(2, 2);
        z.addNote(0, 8, 0, 0, 0, 4, false);
        z.addNote(0, 4, 0, 0, 0, 4, false); // parts two groups in one beat
        z.addNote(0, 8, 0, 0, 0, 4, false);
        z.addNote(0, 8, 0, 0, 0, 4, false);
        CHECK.row(z, "beams parted by a longer note", 8, -1, -1, -1, -1);
    }

    private static void pitch() {
        CHECK.promise("Promise 13");
        ScorePress x = Check.withVoices(1);
        x.addNote(0, 4, 0, 6, -2, 0, false);
        x.addNote(0, 1, 0, 2, 2, 8, false);
        x.addRest(0, 4, 0);
        int[][] due = {{6, -2, 0}, {2, 2, 8}, {2, 2, 8}};
        for (int i = 0; i < due.length; i++) {
            for (int what = 0; what < 3; what++) {
                CHECK.same("pitch(0, " + i + ", " + what + ")", due[i][what], x.pitch(0, i, what));
            }
        }
        CHECK.state("a rest", () -> x.pitch(0, 3, 0));
        CHECK.index("a rest and a wrong what", () -> x.pitch(0, 3, 3));
        CHECK.index("what 3", () -> x.pitch(0, 0, 3));
        CHECK.index("what -1", () -> x.pitch(0, 0, -1));
        CHECK.index("no element", () -> x.pitch(0, 4, 0));
        CHECK.index("no element below 0", () -> x.pitch(0, -1, 0));
        CHECK.index("no voice", () -> x.pitch(1, 0, 0));
        CHECK.index("no voice below 0", () -> x.pitch(-1, 0, 0));
        x.removeLast(0);
        x.removeLast(0);
        x.addRest(0, 4, 0);
        CHECK.state("a rest where a note was", () -> x.pitch(0, 2, 0));
    }

    private static void voice() {
        CHECK.promise("Promise 14");
        ScorePress x = Check.withVoices(2);
        x.addNote(0, 8, 0, 0, 1, 4, true);
        x.addNote(0, 8, 0, 1, -1, 4, true); // joined: the same tone
        x.addNote(0, 8, 0, 1, 0, 4, true); // not joined, and its sign is another one
        x.addRest(0, 8, 0);
        x.addNote(0, 2, 0, 6, 0, 2, false);
        x.addNote(0, 8, 0, 1, 0, 6, false);
        int[] due = {6, 432, 4, 1, 2, 74, 35};
        int[] empty = {0, 0, 0, 0, 0, -1, -1};
        for (int what = 0; what <= 6; what++) {
            CHECK.same("voice(0, " + what + ")", due[what], x.voice(0, what));
            CHECK.same("voice(1, " + what + ")", empty[what], x.voice(1, what));
        }
        x.addRest(1, 4, 0);
        int[] rest = {1, 96, 0, 0, 0, -1, -1};
        for (int what = 0; what <= 6; what++) {
            CHECK.same("voice(1, " + what + ") with a rest", rest[what], x.voice(1, what));
        }
        x.addNote(1, 4, 0, 1, -2, 0, false);
        CHECK.same("the greatest tone 0", 0, x.voice(1, 5));
        CHECK.same("the least tone 0", 0, x.voice(1, 6));
        CHECK.index("what 7", () -> x.voice(0, 7));
        CHECK.index("what -1", () -> x.voice(0, -1));
        CHECK.index("no voice", () -> x.voice(2, 0));
        CHECK.index("no voice below 0", () -> x.voice(-1, 0));
        CHECK.index("far", () -> x.voice(Integer.MIN_VALUE, Integer.MAX_VALUE));
        joins();
    }

    private static void joins() {
        ScorePress x = Check.withVoices(1);
        x.addNote(0, 4, 0, 0, 0, 4, true);
        x.addRest(0, 4, 0); // tied to a rest
        x.addNote(0, 4, 0, 0, 0, 4, true);
        x.addNote(0, 4, 0, 0, 0, 5, true); // another tone
        x.addNote(0, 4, 0, 0, 0, 5, true);
        x.addNote(0, 4, 0, 6, 1, 4, true); // the same tone, another octave's name
        CHECK.same("sounds", 3, x.voice(0, 2));
        x.addNote(0, 4, 0, 0, 0, 5, false);
        CHECK.same("sounds, one longer", 3, x.voice(0, 2));
    }

    public static void main(String[] arguments) {
        addNote();
        addRest();
        removeLast();
        tie();
        element();
        pitch();
        voice();
        CHECK.end();
    }
}
