import java.util.NoSuchElementException;

/** Counts the answers that are not as due, and ends with exit code 1 if there was one. */
final class Checks {
    static final Class<IllegalArgumentException> ARGUMENT = IllegalArgumentException.class;
    static final Class<IllegalStateException> STATE = IllegalStateException.class;
    static final Class<NoSuchElementException> NONE = NoSuchElementException.class;

    private int made = 0;
    private int wrong = 0;

    void same(String what, long got, long due) {
        made++;
        if (got != due) {
            fail(what, "answered " + got + ", due is " + due);
        }
    }

    void sameText(String what, String got, String due) {
        made++;
        if (!got.equals(due)) {
            fail(what, "answered\n  " + got + "\ndue is\n  " + due);
        }
    }

    void holds(String what, boolean holds) {
        made++;
        if (!holds) {
            fail(what, "does not hold");
        }
    }

    /** The call throws just this, and the object then goes on in every way like one that was never asked. */
    void refused(String what, Class<? extends RuntimeException> due, Forges.Maker maker, Forges.Call call) {
        for (int look = 0; look < Look.COUNT; look++) {
            ThumbForge tried = maker.make();
            throwsOn(what, due, tried, call);
            sameText(what + " changes nothing", Look.number(look, tried), Look.number(look, maker.make()));
        }
    }

    void refused(String what, Class<? extends RuntimeException> due, Forges.State[] states, Forges.Call call) {
        for (Forges.State state : states) {
            refused(what + ", " + state.name(), due, state.maker(), call);
        }
    }

    /** Only that it throws just this: for where the looks would need more calls than an object has. */
    void throwsOn(String what, Class<? extends RuntimeException> due, ThumbForge forge, Forges.Call call) {
        made++;
        Class<?> got = Look.thrown(() -> call.on(forge));
        if (got != due) {
            fail(what, "threw " + got.getSimpleName() + ", due is " + due.getSimpleName());
        }
    }

    /** The call throws nothing, and the object then goes on in every way like one that was never asked. */
    void changesNothing(String what, Forges.State[] states, Forges.Call call) {
        for (Forges.State state : states) {
            for (int look = 0; look < Look.COUNT; look++) {
                ThumbForge asked = state.maker().make();
                call.on(asked);
                sameText(what + ", " + state.name() + ", changes nothing",
                    Look.number(look, asked), Look.number(look, state.maker().make()));
            }
        }
    }

    void finish() {
        System.out.println(wrong == 0 ? made + " answers are as due" : wrong + " of " + made + " answers are not as due");
        if (wrong != 0) {
            System.exit(1);
        }
    }

    private void fail(String what, String how) {
        wrong++;
        if (wrong <= 20) {
            System.out.println(what + " " + how);
        }
    }
}
