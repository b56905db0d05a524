/** Promises 1 to 7: the score. */
public final class ScoreTest {
    private static final Check CHECK = new Check();

    private static void newObject() {
        CHECK.promise("Promise 1");
        ScorePress x = new ScorePress();
        int[] due = {0, 384, 0, 0, 0};
        for (int what = 0; what < due.length; what++) {
            CHECK.same("score(" + what + ")", due[what], x.score(what));
        }
        CHECK.same("faults()", 0, x.faults());
        CHECK.same("events()", 0, x.events());
        CHECK.sameDouble("meanTone()", 0.0, x.meanTone());
        CHECK.index("addRest(0, 4, 0)", () -> x.addRest(0, 4, 0));
        for (int step = 0; step <= 6; step++) {
            CHECK.same("sign(" + step + ")", 0, x.sign(step));
        }
        ScorePress other = new ScorePress();
        other.addVoice();
        CHECK.same("score(0) beside another object", 0, x.score(0));
    }

    private static void setBars() {
        CHECK.promise("Promise 2");
        int[] parts = {2, 4, 8};
        for (int part : parts) {
            for (int beats = 1; beats <= 12; beats++) {
                ScorePress x = new ScorePress();
                int due = beats * 384 / part;
                CHECK.same("setBars(" + beats + ", " + part + ")", due, x.setBars(beats, part));
                CHECK.same("score(1)", due, x.score(1));
            }
        }
        ScorePress x = new ScorePress();
        x.setBars(3, 4);
        int[][] wrong = {{0, 4}, {13, 4}, {-1, 4}, {4, 0}, {4, 1}, {4, 3}, {4, 16}, {4, -4},
            {Integer.MIN_VALUE, 2}, {Integer.MAX_VALUE, 2}, {1, Integer.MAX_VALUE}};
        for (int[] w : wrong) {
            CHECK.argument("setBars(" + w[0] + ", " + w[1] + ")", () -> x.setBars(w[0], w[1]));
        }
        CHECK.same("score(1) after what throws", 288, x.score(1));
        x.addVoice();
        CHECK.same("setBars with an empty voice", 96, x.setBars(2, 8));
        x.addVoice();
        x.addRest(1, 32, 0);
        CHECK.state("setBars with an element in the voice 1", () -> x.setBars(3, 4));
        CHECK.argument("setBars with elements and a wrong part", () -> x.setBars(3, 5));
        CHECK.argument("setBars with elements and wrong beats", () -> x.setBars(0, 4));
        CHECK.same("score(1) after what throws", 96, x.score(1));
        x.removeLast(1);
        CHECK.same("setBars after removeLast", 288, x.setBars(3, 4));
    }

    private static void setKey() {
        CHECK.promise("Promise 3");
        ScorePress x = new ScorePress();
        x.addVoice();
        x.addNote(0, 4, 0, 3, 0, 4, false);
        CHECK.same("element(0, 0, 7) in the key 0", 0, x.element(0, 0, 7));
        CHECK.same("setKey(7)", 0, x.setKey(7));
        CHECK.same("setKey(-7)", 7, x.setKey(-7));
        CHECK.same("setKey(1)", -7, x.setKey(1));
        CHECK.same("score(2)", 1, x.score(2));
        CHECK.same("the note's sign stays", 0, x.pitch(0, 0, 1));
        CHECK.same("the note's tone stays", 53, x.element(0, 0, 4));
        CHECK.same("the note shows its sign then", 1, x.element(0, 0, 7));
        int[] wrong = {-8, 8, Integer.MIN_VALUE, Integer.MAX_VALUE};
        for (int key : wrong) {
            CHECK.argument("setKey(" + key + ")", () -> x.setKey(key));
        }
        CHECK.same("score(2) after what throws", 1, x.score(2));
        CHECK.same("setKey of the same key", 1, x.setKey(1));
    }

    private static void addVoice() {
        CHECK.promise("Promise 4");
        ScorePress x = new ScorePress();
        for (int v = 0; v < 4; v++) {
            CHECK.same("addVoice()", v, x.addVoice());
            CHECK.same("voice(" + v + ", 0)", 0, x.voice(v, 0));
            CHECK.same("score(0)", v + 1, x.score(0));
        }
        CHECK.state("the fifth addVoice()", x::addVoice);
        CHECK.state("addVoice() again", x::addVoice);
        CHECK.same("score(0) after what throws", 4, x.score(0));
    }

    private static void score() {
        CHECK.promise("Promise 5");
        ScorePress x = new ScorePress();
        x.setBars(3, 4);
        x.setKey(-2);
        x.addVoice();
        x.addVoice();
        x.addVoice();
        CHECK.same("bars of empty voices", 0, x.score(3));
        CHECK.same("end of empty voices", 0, x.score(4));
        x.addRest(1, 2, 1);
        CHECK.same("bars of one full bar", 1, x.score(3));
        x.addRest(1, 32, 0);
        CHECK.same("bars, one tick value behind the bar", 2, x.score(3));
        CHECK.same("end", 300, x.score(4));
        x.addNote(2, 1, 0, 0, 0, 4, false);
        int[] due = {3, 288, -2, 2, 384};
        for (int what = 0; what < due.length; what++) {
            CHECK.same("score(" + what + ")", due[what], x.score(what));
        }
        x.removeLast(2);
        CHECK.same("end after removeLast", 300, x.score(4));
        int[] wrong = {-1, 5, Integer.MIN_VALUE, Integer.MAX_VALUE};
        for (int what : wrong) {
            CHECK.index("score(" + what + ")", () -> x.score(what));
        }
    }

    private static void sign() {
        CHECK.promise("Promise 6");
        ScorePress x = new ScorePress();
        // C D E F G A B, for the keys -7 to 7.
        int[][] due = {
            {-1, -1, -1, -1, -1, -1, -1}, {-1, -1, -1, 0, -1, -1, -1}, {0, -1, -1, 0, -1, -1, -1},
            {0, -1, -1, 0, 0, -1, -1}, {0, 0, -1, 0, 0, -1, -1}, {0, 0, -1, 0, 0, 0, -1},
            {0, 0, 0, 0, 0, 0, -1}, {0, 0, 0, 0, 0, 0, 0}, {0, 0, 0, 1, 0, 0, 0},
            {1, 0, 0, 1, 0, 0, 0}, {1, 0, 0, 1, 1, 0, 0}, {1, 1, 0, 1, 1, 0, 0},
            {1, 1, 0, 1, 1, 1, 0}, {1, 1, 1, 1, 1, 1, 0}, {1, 1, 1, 1, 1, 1, 1}};
        for (int key = -7; key <= 7; key++) {
            x.setKey(key);
            for (int step = 0; step <= 6; step++) {
                CHECK.same("sign(" + step + ") in the key " + key, due[key + 7][step], x.sign(step));
            }
        }
        int[] wrong = {-1, 7, Integer.MIN_VALUE, Integer.MAX_VALUE};
        for (int step : wrong) {
            CHECK.argument("sign(" + step + ")", () -> x.sign(step));
        }
    }

    private static void ticks() {
        CHECK.promise("Promise 7");
        int[][] values = {
            {1, 0, 384}, {1, 1, 576}, {1, 2, 672}, {2, 0, 192}, {2, 1, 288}, {2, 2, 336},
            {4, 0, 96}, {4, 1, 144}, {4, 2, 168}, {8, 0, 48}, {8, 1, 72}, {8, 2, 84},
            {16, 0, 24}, {16, 1, 36}, {32, 0, 12}};
        for (int part = -2; part <= 70; part++) {
            ScorePress x = new ScorePress();
            for (int dots = -2; dots <= 4; dots++) {
                String due = "IllegalArgumentException";
                for (int[] value : values) {
                    due = value[0] == part && value[1] == dots ? String.valueOf(value[2]) : due;
                }
                int p = part;
                int d = dots;
                CHECK.sameText("ticks(" + p + ", " + d + ")", due, Check.outcome(() -> x.ticks(p, d)));
            }
        }
        ScorePress x = new ScorePress();
        CHECK.argument("ticks of far numbers", () -> x.ticks(Integer.MIN_VALUE, Integer.MIN_VALUE));
        CHECK.argument("ticks of far dots", () -> x.ticks(4, Integer.MAX_VALUE));
    }

    public static void main(String[] arguments) {
        newObject();
        setBars();
        setKey();
        addVoice();
        score();
        sign();
        ticks();
        CHECK.end();
    }
}
