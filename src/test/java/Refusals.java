/** Checks that a call is refused: that it throws what is due, and that it changes nothing. */
final class Refusals {
    interface Maker {
        ScorePress make();
    }

    interface Asked {
        Object of(ScorePress x);
    }

    private final Check check;

    Refusals(Check check) {
        this.check = check;
    }

    /** Asks the call of one of two scores alike: both must tell the same, then and when used on. */
    void refused(String what, Class<? extends RuntimeException> due, Maker maker, Asked call) {
        ScorePress asked = maker.make();
        ScorePress untouched = maker.make();
        check.fails(what, due, () -> call.of(asked));
        check.sameText("what the score tells behind " + what, Telling.of(untouched), Telling.of(asked));
        check.sameText("the calls behind " + what, Telling.afterwards(untouched), Telling.afterwards(asked));
    }

    void index(String what, Maker maker, Asked call) {
        refused(what, IndexOutOfBoundsException.class, maker, call);
    }

    void argument(String what, Maker maker, Asked call) {
        refused(what, IllegalArgumentException.class, maker, call);
    }

    void state(String what, Maker maker, Asked call) {
        refused(what, IllegalStateException.class, maker, call);
    }

    /** The edge beside a refused call is not refused. */
    void allowed(String what, Object due, Maker maker, Asked call) {
        ScorePress x = maker.make();
        check.sameText(what, String.valueOf(due), Check.outcome(() -> call.of(x)));
    }
}
