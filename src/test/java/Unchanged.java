import java.util.function.Supplier;

/** Makes a call on one of two like yards: what it answers, and that the two are alike but for what it may change. */
final class Unchanged {
    private static final int REASONS = 7;

    private final Due due;

    Unchanged(Due due) {
        this.due = due;
    }

    /** OUTSIDE comes ahead of all, so the same call has it in every yard. */
    void outside(String what, Yard.Call call) {
        answers("new yard, " + what, Due.OUTSIDE, TankSidings::new, call);
        answers("bare yard, " + what, Due.OUTSIDE, Yard::bare, call);
        answers("narrow yard, " + what, Due.OUTSIDE, Yard::narrow, call);
        answers("open yard, " + what, Due.OUTSIDE, Yard::open, call);
    }

    /** The call answers so, its reason is told once, and nothing else has changed. */
    void answers(String what, int answer, Supplier<TankSidings> yard, Yard.Call call) {
        answersWithLevel(what, answer, yard.get().level(), yard, call);
    }

    /** The same, but level() is another one behind it. */
    void answersWithLevel(String what, int answer, int level, Supplier<TankSidings> yard, Yard.Call call) {
        TankSidings before = yard.get();
        TankSidings after = yard.get();
        due.is(what, answer, call.on(after));
        due.is(what + ", level", level, after.level());
        for (int r = 1; r <= REASONS; r++) {
            int once = answer == -10 - r ? 1 : 0;
            due.is(what + ", reasons(" + r + ")", before.reasons(r) + once, after.reasons(r));
        }
        due.same(what + ", what is seen", Yard.seen(before), Yard.seen(after));
    }
}
