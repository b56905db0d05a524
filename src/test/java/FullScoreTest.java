/**
 * A full score: four voices of 200 elements that end with the bar 99, made by 60 calls each, beside
 * PlainScore; and what is left of it when elements are removed.
 */
public final class FullScoreTest {
    private static final Check CHECK = new Check();
    private static final int LAST_TICK = 100 * 240;

    private final ScorePress x = new ScorePress();
    private final PlainScore plain = new PlainScore();

    /** Bars of 240 ticks: each one is cut into 192 and 48, or 48 and 192. */
    private FullScoreTest() {
        x.setBars(5, 8);
        plain.setBars(5, 8);
        for (int v = 0; v < 4; v++) {
            x.addVoice();
            plain.addVoice();
            for (int round = 0; round < 20; round++) {
                add(v, 1, 2, (round + v) % 7);
                add(v, 2, 2, (round + 2 * v) % 7);
                add(v, 2, 0, (round + 3 * v) % 7);
            }
        }
    }

    private void add(int voice, int part, int dots, int step) {
        int due = plain.addNote(voice, part, dots, step, step % 3 - 1, 3 + voice, false);
        CHECK.same("pieces", due, x.addNote(voice, part, dots, step, step % 3 - 1, 3 + voice, false));
    }

    private void same(String when) {
        CHECK.same("digest() " + when, plain.digest(), x.digest());
        CHECK.sameDouble("meanTone() " + when, plain.meanTone(), x.meanTone());
        CHECK.same("faults() " + when, plain.faults(), x.faults());
    }

    private static void isFull() {
        CHECK.promise("Four voices of 200 elements up to the end of the bar 99");
        FullScoreTest full = new FullScoreTest();
        ScorePress x = full.x;
        full.same("when it is full");
        for (int v = 0; v < 4; v++) {
            int voice = v;
            CHECK.same("elements of the voice " + v, 200, x.voice(v, 0));
            CHECK.same("end of the voice " + v, LAST_TICK, x.voice(v, 1));
            CHECK.same("bar of the last element of the voice " + v, 99, x.element(v, 199, 6));
            CHECK.index("the element 200 of the voice " + v, () -> x.element(voice, 200, 0));
            CHECK.state("a note more in the voice " + v, () -> x.addNote(voice, 32, 0, 0, 0, 4, false));
            CHECK.state("a rest more in the voice " + v, () -> x.addRest(voice, 32, 0));
        }
        CHECK.state("a voice more", x::addVoice);
        CHECK.state("other bars", () -> x.setBars(5, 8));
        CHECK.same("bars", 100, x.score(3));
        CHECK.same("the greatest end", LAST_TICK, x.score(4));
        full.same("after what throws");
    }

    private static void isChanged() {
        CHECK.promise("All notes of all voices: a full score is changed");
        FullScoreTest full = new FullScoreTest();
        CHECK.same("setKey(5)", full.plain.setKey(5), full.x.setKey(5));
        full.same("in another key");
        CHECK.same("transpose(1, 1)", full.plain.transpose(1, 1), full.x.transpose(1, 1));
        full.same("transposed");
        for (int i = 0; i < 200; i++) {
            CHECK.same("tie(3, " + i + ", false)", full.plain.tie(3, i, false), full.x.tie(3, i, false));
        }
        full.same("without ties in the voice 3");
        CHECK.same("sounds of the voice 3", 200, full.x.voice(3, 2));
        CHECK.same("tie(3, 199, true)", false, full.x.tie(3, 199, true));
        CHECK.same("a tie of the last element of a full voice is a fault", full.plain.faults() + 1, full.x.faults());
    }

    private static void isAsked() {
        CHECK.promise("interval, event: the last ticks of a full score");
        FullScoreTest full = new FullScoreTest();
        int[] ticks = {0, 191, 192, LAST_TICK - 193, LAST_TICK - 192, LAST_TICK - 1, LAST_TICK, LAST_TICK + 1};
        for (int tick : ticks) {
            for (int a = 0; a < 4; a++) {
                for (int b = 0; b < 4; b++) {
                    String name = "interval(" + a + ", " + b + ", " + tick + ")";
                    CHECK.same(name, full.plain.interval(a, b, tick), full.x.interval(a, b, tick));
                }
            }
        }
        int last = full.plain.events() - 1;
        CHECK.same("events()", last + 1, full.x.events());
        CHECK.same("the last event's tick", LAST_TICK, full.x.event(last, 0));
        CHECK.same("the last event's voice", 3, full.x.event(last, 1));
        CHECK.same("the last event ends a sound", 0, full.x.event(last, 3));
        CHECK.index("no event behind it", () -> full.x.event(last + 1, 0));
    }

    private static void isRemoved() {
        CHECK.promise("removeLast: takes away; what is removed from a full score is told no more");
        FullScoreTest full = new FullScoreTest();
        for (int i = 0; i < 50; i++) {
            for (int v = 0; v < 4; v++) {
                CHECK.same("removeLast(" + v + ")", full.plain.removeLast(v), full.x.removeLast(v));
            }
        }
        full.same("with 150 elements in each voice");
        CHECK.same("transpose(-1, -2)", full.plain.transpose(-1, -2), full.x.transpose(-1, -2));
        full.same("transposed");
        for (int v = 0; v < 4; v++) {
            full.add(v, 1, 2, 0);
        }
        full.same("with other notes in their place");
    }

    private static void endsEarly() {
        CHECK.promise("At most 200 elements: a voice that is full and ends ahead of the other one");
        ScorePress x = Check.withVoices(2);
        for (int i = 0; i < 200; i++) {
            x.addNote(1, 32, 0, 0, 0, 4, false);
        }
        for (int bar = 0; bar < 30; bar++) {
            x.addNote(0, 1, 0, 0, 0, 4, false);
        }
        CHECK.same("6 of 30 bars are filled", 24, x.faults());
        CHECK.same("its last tick", 0, x.interval(0, 1, 2399));
        CHECK.same("its end", -100, x.interval(0, 1, 2400));
        CHECK.same("its end, seen from it", -100, x.interval(1, 0, 2400));
    }

    // ---- what is removed from small scores

    private static ScorePress withTail() {
        ScorePress x = Check.withVoices(2);
        for (int v = 0; v < 2; v++) {
            x.addNote(v, 2, 0, 0, 0, 4 + v, false);
            x.addNote(v, 2, 0, 1, 1, 4 + v, true);
        }
        return x;
    }

    private static void removedNote() {
        CHECK.promise("removeLast: takes away; what is removed from two voices is told no more");
        ScorePress x = withTail();
        CHECK.same("two ties to nothing, and parallels", 3, x.faults());
        x.removeLast(1);
        CHECK.same("one tie to nothing, and a bar that is not filled", 2, x.faults());
        CHECK.same("no interval there", -100, x.interval(0, 1, 192));
        x.removeLast(0);
        CHECK.same("two bars that are not filled", 2, x.faults());
        CHECK.same("no interval of one voice there", -100, x.interval(0, 0, 192));
        CHECK.sameDouble("the mean tone", 54.0, x.meanTone());
        CHECK.same("the greatest tone", 60, x.voice(1, 5));
        CHECK.same("events", 4, x.events());
        CHECK.same("signs", 0, x.voice(0, 4));
    }

    private static void removedVoiceEnd() {
        CHECK.promise("removeLast: pairs of voices when the other voice alone is shorter");
        ScorePress x = withTail();
        x.tie(0, 1, false);
        x.tie(1, 1, false);
        CHECK.same("parallels", 1, x.faults());
        x.removeLast(0);
        CHECK.same("no parallels, a bar that is not filled", 1, x.faults());
        x.addRest(0, 2, 0);
        CHECK.same("nor with a rest in its place", 0, x.faults());
        CHECK.sameDouble("the mean tone", (48 + 60 + 63) / 3.0, x.meanTone());
    }

    public static void main(String[] arguments) {
        isFull();
        isChanged();
        isAsked();
        isRemoved();
        endsEarly();
        removedNote();
        removedVoiceEnd();
        CHECK.end();
    }
}
