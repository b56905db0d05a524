import java.util.Random;

/**
 * Runs of calls with fixed seeds, of at most 512 calls on each object, compared with PlainScore:
 * each answer and each exception, and what the whole score tells after a call that throws.
 */
public final class RandomRunsTest {
    private static final int MOST_CALLS = 512;
    private static final int[] PARTS = {1, 2, 4, 8, 8, 16, 16, 32, 32};

    private final Check check;
    private final Random random;
    private final String run;
    private final ScorePress score = new ScorePress();
    private final PlainScore plain = new PlainScore();
    private final int wrongPercent;
    private int calls = 0;

    private RandomRunsTest(Check check, int seed) {
        this.check = check;
        this.random = new Random(seed);
        this.run = "run " + seed;
        this.wrongPercent = seed % 4 == 0 ? 30 : 4;
    }

    private int upTo(int bound) {
        return random.nextInt(bound);
    }

    private boolean chance(int percent) {
        return upTo(100) < percent;
    }

    /** A number from 0 to last, or, now and then, one that is outside or far away. */
    private int pick(int least, int last) {
        if (!chance(wrongPercent)) {
            return least + upTo(Math.max(1, last - least + 1));
        }
        int[] odd = {least - 1, last + 1, Integer.MIN_VALUE, Integer.MAX_VALUE, -1, 0, 3, 200};
        return odd[upTo(odd.length)];
    }

    private void both(String call, Check.Call due, Check.Call got) {
        calls++;
        String dueText = Check.outcome(due);
        check.sameText(run + ", call " + calls + ": " + call, dueText, Check.outcome(got));
        if (dueText.endsWith("Exception") && calls < MOST_CALLS && chance(50)) {
            digest();
        }
    }

    private void digest() {
        calls++;
        check.same(run + ", call " + calls + ": digest()", plain.digest(), score.digest());
    }

    private static String text(String name, Object... arguments) {
        StringBuilder all = new StringBuilder(name).append('(');
        for (int i = 0; i < arguments.length; i++) {
            all.append(i == 0 ? "" : ", ").append(arguments[i]);
        }
        return all.append(')').toString();
    }

    private void build() {
        int v = pick(0, plain.score(0) - 1);
        int part = chance(wrongPercent) ? pick(-1, 40) : PARTS[upTo(PARTS.length)];
        int dots = part == 32 ? pick(0, 0) : part == 16 ? pick(0, 1) : chance(60) ? pick(0, 0) : pick(0, 2);
        if (chance(20)) {
            both(text("addRest", v, part, dots),
                () -> plain.addRest(v, part, dots), () -> score.addRest(v, part, dots));
            return;
        }
        // Few pitches, so that ties, held signs and parallels are met often.
        int step = chance(70) ? pick(2, 4) : pick(0, 6);
        int sign = chance(70) ? pick(-1, 1) : pick(-2, 2);
        int octave = chance(90) ? pick(3, 4) : pick(0, 8);
        boolean isTied = chance(40);
        both(text("addNote", v, part, dots, step, sign, octave, isTied),
            () -> plain.addNote(v, part, dots, step, sign, octave, isTied),
            () -> score.addNote(v, part, dots, step, sign, octave, isTied));
    }

    private void change() {
        int v = pick(0, plain.score(0) - 1);
        int size = plain.score(0) > 0 ? plain.voice(Math.floorMod(v, plain.score(0)), 0) : 0;
        int i = pick(0, size - 1);
        boolean isTied = chance(60);
        int key = pick(-7, 7);
        int beats = pick(1, 12);
        int part = chance(90) ? new int[] {2, 4, 8}[upTo(3)] : pick(0, 16);
        switch (upTo(9)) {
            case 0, 1, 2 -> both(text("tie", v, i, isTied),
                () -> plain.tie(v, i, isTied), () -> score.tie(v, i, isTied));
            case 3 -> both(text("removeLast", v), () -> plain.removeLast(v), () -> score.removeLast(v));
            case 4 -> both(text("setKey", key), () -> plain.setKey(key), () -> score.setKey(key));
            case 5 -> both(text("setBars", beats, part),
                () -> plain.setBars(beats, part), () -> score.setBars(beats, part));
            case 6 -> both("addVoice()", plain::addVoice, score::addVoice);
            default -> transpose();
        }
    }

    private void transpose() {
        int steps = pick(-14, 14);
        // Near what keeps the key, so that many are possible.
        int semitones = chance(80) && Math.abs((long) steps) < 20 ? steps * 12 / 7 + upTo(3) - 1 : pick(-24, 24);
        both(text("transpose", steps, semitones),
            () -> plain.transpose(steps, semitones), () -> score.transpose(steps, semitones));
    }

    private void ask() {
        int v = pick(0, plain.score(0) - 1);
        int w = pick(0, plain.score(0) - 1);
        int size = plain.score(0) > 0 ? plain.voice(Math.floorMod(v, plain.score(0)), 0) : 0;
        int i = pick(0, size - 1);
        int what = pick(0, 8);
        int tick = pick(0, Math.max(1, plain.score(4)));
        int index = pick(0, plain.events() - 1);
        switch (upTo(13)) {
            case 0 -> both(text("score", what), () -> plain.score(what), () -> score.score(what));
            case 1 -> both(text("sign", what), () -> plain.sign(what), () -> score.sign(what));
            case 2 -> both(text("ticks", tick, what),
                () -> plain.ticks(tick, what), () -> score.ticks(tick, what));
            case 3, 4 -> both(text("element", v, i, what),
                () -> plain.element(v, i, what), () -> score.element(v, i, what));
            case 5 -> both(text("pitch", v, i, what % 3),
                () -> plain.pitch(v, i, what % 3), () -> score.pitch(v, i, what % 3));
            case 6 -> both(text("voice", v, what), () -> plain.voice(v, what), () -> score.voice(v, what));
            case 7 -> both("faults()", plain::faults, score::faults);
            case 8 -> both(text("interval", v, w, tick),
                () -> plain.interval(v, w, tick), () -> score.interval(v, w, tick));
            case 9 -> both(text("event", index, what % 5),
                () -> plain.event(index, what % 5), () -> score.event(index, what % 5));
            case 10 -> both("events()", plain::events, score::events);
            case 11 -> both(text("time", tick, index),
                () -> plain.time(tick, index), () -> score.time(tick, index));
            default -> both("meanTone()", plain::meanTone, score::meanTone);
        }
    }

    private void start() {
        both("digest()", plain::digest, score::digest);
        int beats = pick(1, 12);
        int part = new int[] {2, 4, 8}[upTo(3)];
        if (chance(80)) {
            both(text("setBars", beats, part),
                () -> plain.setBars(beats, part), () -> score.setBars(beats, part));
        }
        int wanted = upTo(5);
        for (int v = 0; v < wanted; v++) {
            both("addVoice()", plain::addVoice, score::addVoice);
        }
    }

    private void runAll() {
        start();
        int buildPercent = 30 + upTo(60);
        while (calls < MOST_CALLS - 1) {
            if (chance(buildPercent)) {
                build();
            } else if (chance(40)) {
                change();
            } else {
                ask();
            }
            if (calls < MOST_CALLS - 1 && chance(3)) {
                digest();
            }
        }
        digest();
    }

    public static void main(String[] arguments) {
        Check check = new Check();
        check.promise("random runs");
        for (int seed = 1; seed <= 400; seed++) {
            new RandomRunsTest(check, seed).runAll();
        }
        check.end();
    }
}
