/**
 * What a score tells, as a text, so that two scores can be compared.
 *
 * <p>An object is good for 512 calls: of() takes at most 100 of them, afterwards() at most 140, which
 * leaves room for a voice of 200 elements. What digest() holds is not asked for once more.
 */
final class Telling {
    private final StringBuilder all = new StringBuilder();

    private void add(String name, Check.Call call) {
        all.append(name).append(" = ").append(Check.outcome(call)).append("; ");
    }

    /** All that the score tells now; of its pitches those at the ends of each voice. */
    static String of(ScorePress x) {
        Telling told = new Telling();
        told.numbers(x);
        for (int v = 0; v < x.score(0); v++) {
            told.pitches(x, v);
        }
        return told.all.toString();
    }

    private void numbers(ScorePress x) {
        for (int what = 0; what <= 4; what++) {
            int w = what;
            add("score " + what, () -> x.score(w));
        }
        for (int step = 0; step <= 6; step++) {
            int s = step;
            add("sign " + step, () -> x.sign(s));
        }
        add("faults", x::faults);
        add("events", x::events);
        add("meanTone", x::meanTone);
        add("digest", x::digest);
    }

    private void pitches(ScorePress x, int voice) {
        int count = x.voice(voice, 0);
        for (int i = 0; i < count; i++) {
            int element = i;
            for (int what = 0; what <= 2 && (i < 3 || i >= count - 3); what++) {
                int w = what;
                add("pitch " + voice + " " + i + " " + what, () -> x.pitch(voice, element, w));
            }
        }
    }

    /** What the score answers when it is used on, and what it tells then. */
    static String afterwards(ScorePress x) {
        Telling told = new Telling();
        told.add("addVoice", x::addVoice);
        for (int v = 0; v < x.score(0); v++) {
            told.useVoice(x, v);
        }
        told.add("transpose", () -> x.transpose(1, 2));
        told.add("setKey", () -> x.setKey(-1));
        told.add("setBars", () -> x.setBars(6, 8));
        return told.all + of(x);
    }

    private void useVoice(ScorePress x, int voice) {
        add("a short note", () -> x.addNote(voice, 16, 1, 3, 1, 4, true));
        add("a joined note", () -> x.addNote(voice, 8, 0, 3, 1, 4, false));
        add("removeLast", () -> x.removeLast(voice));
        add("a rest", () -> x.addRest(voice, 32, 0));
        add("a long note", () -> x.addNote(voice, 1, 2, 6, -1, 3, false));
        add("tie", () -> x.tie(voice, x.voice(voice, 0) - 1, true));
    }
}
