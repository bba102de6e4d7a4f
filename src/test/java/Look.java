import java.util.ArrayList;
import java.util.Arrays;
import java.util.List;
import java.util.NoSuchElementException;

/**
 * What can be seen of an object: at once, and by going on with it. Each look needs an object of its
 * own, for an object is promised to last for 512 calls only.
 */
final class Look {
    static final int COUNT = 5;

    /** Between them they show all that the document lets one see: also the program, when it has no image. */
    static String number(int look, ThumbForge forge) {
        switch (look) {
            case 0:
                return "as it is: " + seen(forge);
            case 1:
                return "run on: " + tried(() -> forge.run(1)) + tried(() -> forge.run(7)) + tried(() -> forge.run(2000)) + seen(forge);
            case 2:
                return "started: " + started(forge) + tried(() -> forge.run(33)) + seen(forge);
            case 3:
                return "forged: " + tried(forge::forge) + seen(forge);
            default:
                return "filled up: " + filledUp(forge);
        }
    }

    static String seen(ThumbForge forge) {
        List<String> all = new ArrayList<>();
        all.add("state " + forge.state() + " at " + forge.at() + " outputs " + forge.outputs());
        all.add("halfwords " + Arrays.toString(image(forge)));
        all.add("places " + Arrays.toString(places(forge)));
        all.add("memory " + Arrays.toString(memory(forge)));
        all.add("variables " + (forge.state() == ThumbForge.OFF ? "none" : Arrays.toString(variables(forge))));
        all.add("put out " + Arrays.toString(keptOutputs(forge)));
        return String.join("; ", all);
    }

    static int[] image(ThumbForge forge) {
        return untilNone(0, forge::halfword);
    }

    static int[] places(ThumbForge forge) {
        return untilNone(0, forge::place);
    }

    static int[] keptOutputs(ThumbForge forge) {
        return untilNone(Math.max(0, forge.outputs() - 16), forge::output);
    }

    static int[] memory(ThumbForge forge) {
        return eight(forge::memory);
    }

    static int[] variables(ThumbForge forge) {
        return eight(forge::variable);
    }

    /** The class of what the call throws, or the class of nothing. */
    static Class<?> thrown(Runnable call) {
        try {
            call.run();
        } catch (RuntimeException thrown) {
            return thrown.getClass();
        }
        return Void.class;
    }

    private interface Answer {
        int get();
    }

    private interface Row {
        int get(int i);
    }

    private static String tried(Answer answer) {
        try {
            return answer.get() + ", ";
        } catch (RuntimeException thrown) {
            return thrown.getClass().getSimpleName() + ", ";
        }
    }

    private static String started(ThumbForge forge) {
        return thrown(forge::start).getSimpleName() + ", ";
    }

    /** With TRAPs behind it every program is whole, so that its image shows it. */
    private static String filledUp(ThumbForge forge) {
        StringBuilder all = new StringBuilder();
        for (int i = 0; i <= Forges.MOST_INSTRUCTIONS; i++) {
            all.append(tried(() -> forge.stop(9)));
        }
        return all + tried(forge::forge) + started(forge) + tried(() -> forge.run(2000)) + seen(forge);
    }

    private static int[] eight(Row row) {
        int[] all = new int[8];
        for (int i = 0; i < 8; i++) {
            all[i] = row.get(i);
        }
        return all;
    }

    private static int[] untilNone(int first, Row row) {
        List<Integer> all = new ArrayList<>();
        try {
            for (int i = first; i < first + 512; i++) {
                all.add(row.get(i));
            }
        } catch (NoSuchElementException end) {
            return all.stream().mapToInt(Integer::intValue).toArray();
        }
        throw new AssertionError("a row has no end");
    }

    private Look() {
    }
}
