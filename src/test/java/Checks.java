import java.util.ArrayList;
import java.util.Arrays;
import java.util.List;
import java.util.NoSuchElementException;

/** Counts the answers that are not as due, and ends with exit code 1 if there was one. */
final class Checks {
    static final Class<IllegalArgumentException> ARGUMENT = IllegalArgumentException.class;
    static final Class<IllegalStateException> STATE = IllegalStateException.class;
    static final Class<NoSuchElementException> NONE = NoSuchElementException.class;

    private int made = 0;
    private int wrong = 0;

    void same(String what, long got, long due) {
        made++;
        if (got != due) {
            fail(what, "answered " + got + ", due is " + due);
        }
    }

    void sameText(String what, String got, String due) {
        made++;
        if (!got.equals(due)) {
            fail(what, "answered\n  " + got + "\ndue is\n  " + due);
        }
    }

    void holds(String what, boolean holds) {
        made++;
        if (!holds) {
            fail(what, "does not hold");
        }
    }

    /** The call throws just this, and leaves all that can be seen of the forge as it was. */
    void refused(String what, ThumbForge forge, Class<? extends RuntimeException> due, Runnable call) {
        made++;
        String before = seen(forge);
        String got = "nothing";
        try {
            call.run();
        } catch (RuntimeException thrown) {
            got = thrown.getClass().getName();
        }
        if (!got.equals(due.getName())) {
            fail(what, "threw " + got + ", due is " + due.getName());
        }
        sameText(what + " changes nothing", seen(forge), before);
    }

    void finish() {
        System.out.println(wrong == 0 ? made + " answers are as due" : wrong + " of " + made + " answers are not as due");
        if (wrong != 0) {
            System.exit(1);
        }
    }

    private void fail(String what, String how) {
        wrong++;
        if (wrong <= 20) {
            System.out.println(what + " " + how);
        }
    }

    static String seen(ThumbForge forge) {
        List<String> all = new ArrayList<>();
        all.add("state " + forge.state() + " at " + forge.at() + " outputs " + forge.outputs());
        all.add("halfwords " + Arrays.toString(image(forge)));
        all.add("places " + Arrays.toString(places(forge)));
        all.add("memory " + Arrays.toString(memory(forge)));
        all.add("variables " + (forge.state() == ThumbForge.OFF ? "none" : Arrays.toString(variables(forge))));
        all.add("put out " + Arrays.toString(keptOutputs(forge)));
        return String.join("; ", all);
    }

    static int[] image(ThumbForge forge) {
        return untilNone(0, forge::halfword);
    }

    static int[] places(ThumbForge forge) {
        return untilNone(0, forge::place);
    }

    static int[] keptOutputs(ThumbForge forge) {
        return untilNone(Math.max(0, forge.outputs() - 16), forge::output);
    }

    static int[] memory(ThumbForge forge) {
        return untilNone(0, x -> x < 8 ? forge.memory(x) : none());
    }

    static int[] variables(ThumbForge forge) {
        return untilNone(0, a -> a < 8 ? forge.variable(a) : none());
    }

    private static int none() {
        throw new NoSuchElementException();
    }

    private interface Row {
        int get(int i);
    }

    private static int[] untilNone(int first, Row row) {
        List<Integer> all = new ArrayList<>();
        try {
            for (int i = first; i < first + 100000; i++) {
                all.add(row.get(i));
            }
        } catch (NoSuchElementException end) {
            return all.stream().mapToInt(Integer::intValue).toArray();
        }
        throw new AssertionError("a row has no end");
    }
}
