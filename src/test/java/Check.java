/** Counts the answers that are not as due, prints them, and ends the test with an exit code. */
final class Check {
    interface Call {
        Object run();
    }

    private int asked = 0;
    private int wrong = 0;
    private String promise = "";

    /** Names the promise, or the sentence of the document, that the next checks belong to. */
    void promise(String name) {
        promise = name;
    }

    void same(String what, long due, long got) {
        asked++;
        if (due != got) {
            tell(what + " answered " + got + ", due is " + due);
        }
    }

    void same(String what, boolean due, boolean got) {
        asked++;
        if (due != got) {
            tell(what + " answered " + got + ", due is " + due);
        }
    }

    void sameDouble(String what, double due, double got) {
        asked++;
        if (Double.doubleToLongBits(due) != Double.doubleToLongBits(got)) {
            tell(what + " answered " + got + ", due is " + due);
        }
    }

    void sameText(String what, String due, String got) {
        asked++;
        if (!due.equals(got)) {
            tell(what + " answered " + got + ", due is " + due);
        }
    }

    /** Asks one number of all elements of the voice 0. */
    void row(ScorePress x, String name, int what, int... due) {
        same(name + ": elements of the voice", due.length, x.voice(0, 0));
        for (int i = 0; i < due.length && i < x.voice(0, 0); i++) {
            same(name + ": element(0, " + i + ", " + what + ")", due[i], x.element(0, i, what));
        }
    }

    /** Asks the three numbers of a note's pitch. */
    void pitchIs(ScorePress x, int voice, int element, int step, int sign, int octave) {
        String name = "pitch(" + voice + ", " + element + ", ";
        same(name + "0)", step, x.pitch(voice, element, 0));
        same(name + "1)", sign, x.pitch(voice, element, 1));
        same(name + "2)", octave, x.pitch(voice, element, 2));
    }

    /** The class must be this one itself: the machine throws classes below it. */
    void fails(String what, Class<? extends RuntimeException> due, Call call) {
        sameText(what, due.getSimpleName(), outcome(call));
    }

    void index(String what, Call call) {
        fails(what, IndexOutOfBoundsException.class, call);
    }

    void argument(String what, Call call) {
        fails(what, IllegalArgumentException.class, call);
    }

    void state(String what, Call call) {
        fails(what, IllegalStateException.class, call);
    }

    /** A new score with voices without elements. */
    static ScorePress withVoices(int count) {
        ScorePress x = new ScorePress();
        for (int v = 0; v < count; v++) {
            x.addVoice();
        }
        return x;
    }

    /** The answer of a call as a text, or the name of the class that it throws. */
    static String outcome(Call call) {
        try {
            return String.valueOf(call.run());
        } catch (RuntimeException e) {
            return e.getClass().getSimpleName();
        }
    }

    private void tell(String text) {
        wrong++;
        System.out.println(promise + ": " + text);
    }

    void end() {
        if (asked == 0) {
            tell("nothing was checked");
        }
        if (wrong > 0) {
            System.out.println(wrong + " of " + asked + " checks failed");
            System.exit(1);
        }
    }
}
