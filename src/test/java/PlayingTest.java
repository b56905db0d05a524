/** Promises 18 to 22: playing. */
public final class PlayingTest {
    private static final Check CHECK = new Check();

    private static ScorePress twoVoices() {
        ScorePress x = Check.withVoices(2);
        x.addNote(0, 4, 0, 0, 0, 4, false);
        x.addNote(0, 4, 0, 0, 1, 4, true);
        x.addNote(0, 4, 0, 1, -1, 4, false);
        x.addRest(1, 8, 0);
        x.addNote(1, 8, 0, 4, 0, 3, true);
        x.addNote(1, 4, 0, 5, 0, 3, false);
        return x;
    }

    private static void event() {
        CHECK.promise("Promise 18");
        ScorePress x = twoVoices();
        int[][] due = {{0, 0, 48, 1}, {48, 1, 43, 1}, {96, 0, 48, 0}, {96, 1, 43, 0},
            {96, 0, 49, 1}, {96, 1, 45, 1}, {192, 1, 45, 0}, {288, 0, 49, 0}};
        CHECK.same("events()", due.length, x.events());
        for (int i = due.length - 1; i >= 0; i--) {
            for (int what = 0; what <= 3; what++) {
                CHECK.same("event(" + i + ", " + what + ")", due[i][what], x.event(i, what));
            }
        }
        CHECK.index("no event", () -> x.event(8, 0));
        CHECK.index("no event below 0", () -> x.event(-1, 0));
        CHECK.index("what 4", () -> x.event(0, 4));
        CHECK.index("what -1", () -> x.event(0, -1));
        CHECK.index("far", () -> x.event(Integer.MAX_VALUE, Integer.MIN_VALUE));
        CHECK.index("an empty score", () -> new ScorePress().event(0, 0));
        eventsAfterChanges(x);
        manyEvents();
    }

    /** Each change is told at once, also behind an event that was asked for. */
    private static void eventsAfterChanges(ScorePress x) {
        x.tie(0, 1, false);
        CHECK.same("a tie less: events()", 10, x.events());
        CHECK.same("a tie less: its end", 0, x.event(7, 3));
        CHECK.same("a tie less: the next one", 1, x.event(8, 3));
        x.transpose(7, 12);
        CHECK.same("an octave up", 60, x.event(0, 2));
        x.removeLast(1);
        CHECK.same("removed", 8, x.events());
        CHECK.same("removed: the last event", 288, x.event(7, 0));
        x.addNote(1, 1, 0, 0, 0, 2, false);
        CHECK.same("added: the last event", 480, x.event(9, 0));
        x.addVoice();
        x.addNote(2, 32, 0, 0, 0, 0, false);
        CHECK.same("another voice: its beginning", 2, x.event(1, 1));
        CHECK.same("another voice: its end", 12, x.event(2, 0));
    }

    private static void manyEvents() {
        ScorePress x = Check.withVoices(4);
        for (int i = 0; i < 15; i++) {
            for (int v = 0; v < 4; v++) {
                x.addNote(v, 32, 0, v, 0, 4, false);
            }
        }
        CHECK.same("events()", 120, x.events());
        for (int i = 4; i < 116; i++) {
            int inTick = (i - 4) % 8;
            CHECK.same("tick of " + i, ((i - 4) / 8 + 1) * 12L, x.event(i, 0));
            CHECK.same("voice of " + i, inTick % 4, x.event(i, 1));
            CHECK.same("begins of " + i, inTick / 4, x.event(i, 3));
        }
    }

    private static void events() {
        CHECK.promise("Promise 19");
        ScorePress x = Check.withVoices(1);
        CHECK.same("no elements", 0, x.events());
        x.addRest(0, 4, 0);
        CHECK.same("a rest", 0, x.events());
        x.addNote(0, 4, 0, 0, 0, 4, true);
        CHECK.same("a note", 2, x.events());
        x.addNote(0, 4, 0, 0, 0, 4, true);
        CHECK.same("a joined note", 2, x.events());
        x.addNote(0, 4, 0, 1, 0, 4, true);
        CHECK.same("another tone", 4, x.events());
        x.addNote(0, 1, 2, 2, 0, 4, true);
        CHECK.same("a note that is cut", 6, x.events());
        x.removeLast(0);
        CHECK.same("a piece less", 6, x.events());
        CHECK.same("two voices", 8, twoVoices().events());
    }

    private static void time() {
        CHECK.promise("Promise 20");
        ScorePress x = new ScorePress();
        long[][] due = {{0, 10, 0}, {0, 400, 0}, {96, 60, 1000000}, {384, 120, 2000000}, {1, 400, 1562},
            {7, 13, 336538}, {100000, 10, 6250000000L}, {100000, 400, 156250000}, {5000, 100, 31250000}};
        for (long[] d : due) {
            CHECK.same("time(" + d[0] + ", " + d[1] + ")", d[2], x.time((int) d[0], (int) d[1]));
        }
        int[][] wrong = {{-1, 60}, {100001, 60}, {5, 9}, {5, 401}, {5, 0}, {5, -60},
            {Integer.MIN_VALUE, 60}, {Integer.MAX_VALUE, 60}, {5, Integer.MIN_VALUE},
            {5, Integer.MAX_VALUE}};
        for (int[] w : wrong) {
            CHECK.argument("time(" + w[0] + ", " + w[1] + ")", () -> x.time(w[0], w[1]));
        }
    }

    private static void meanTone() {
        CHECK.promise("Promise 21");
        ScorePress x = Check.withVoices(2);
        CHECK.sameDouble("no elements", 0.0, x.meanTone());
        x.addRest(0, 4, 0);
        CHECK.sameDouble("a rest", 0.0, x.meanTone());
        x.addNote(0, 4, 0, 0, 0, 4, false);
        CHECK.sameDouble("a note", 48.0, x.meanTone());
        x.addNote(1, 8, 0, 0, 1, 4, false);
        CHECK.sameDouble("by their ticks", 145.0 / 3.0, x.meanTone());
        x.addNote(1, 32, 0, 6, 0, 8, false);
        CHECK.sameDouble("three notes", (8 * 48 + 4 * 49 + 107) / 13.0, x.meanTone());
    }

    private static long add(long d, long... numbers) {
        for (long x : numbers) {
            d = d * 31 + x;
        }
        return d;
    }

    private static void digest() {
        CHECK.promise("Promise 22");
        long empty = add(389, 0, 384, 0, 0, 0, 0, 0);
        CHECK.same("digest() of an empty score", empty, new ScorePress().digest());
        ScorePress x = Check.withVoices(2);
        x.setKey(-1);
        x.addNote(0, 2, 0, 6, 0, 4, true);
        x.addRest(1, 4, 0);
        long d = add(389, 2, 384, -1, 1, 192);
        d = add(d, 1, 192, 1, 0, 1, 59, 59);
        d = add(d, 0, 192, 2, 0, 59, 1, 0, 1, -1);
        d = add(d, 1, 96, 0, 0, 0, -1, -1);
        d = add(d, 0, 96, 4, 0, -1, 0, 0, 0, -1);
        d = add(d, 3, 2, 0, 0, 59, 1, 192, 0, 59, 0);
        CHECK.same("digest()", d, x.digest());
        CHECK.same("digest() again", d, x.digest());
        x.tie(0, 0, false);
        CHECK.same("another digest() after a change", false, d == x.digest());
        x.tie(0, 0, true);
        CHECK.same("the same digest() after it is undone", d, x.digest());
    }

    public static void main(String[] arguments) {
        event();
        events();
        time();
        meanTone();
        digest();
        CHECK.end();
    }
}
