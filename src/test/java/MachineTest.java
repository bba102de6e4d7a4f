import java.util.Arrays;

/** Promises 14 to 22: memory, starting, running, and what can be seen of it. */
public final class MachineTest {
    private static final int LEAST = Integer.MIN_VALUE, MOST = Integer.MAX_VALUE;

    private final Checks checks = new Checks();

    public static void main(String[] args) {
        MachineTest test = new MachineTest();
        test.memoryWords();
        test.startNeedsAnImage();
        test.startBeginsAnew();
        test.runCounts();
        test.runRefuses();
        test.runGoesOverByWholeInstructions();
        test.longBranchCounts();
        test.states();
        test.variables();
        test.outputsAreKept();
        test.outputsOfALongRun();
        test.computes();
        test.relations();
        test.loadsAndStores();
        test.pokeWhileItRuns();
        test.checks.finish();
    }

    private static ThumbForge started(ThumbForge forge) {
        forge.forge();
        forge.start();
        return forge;
    }

    private void memoryWords() {
        ThumbForge forge = new ThumbForge();
        for (int x = 0; x < 8; x++) {
            checks.same("memory(" + x + ") of a new object", forge.memory(x), 0);
            forge.poke(x, 100 - x);
        }
        forge.poke(7, LEAST);
        forge.poke(0, MOST);
        checks.sameText("memory", Arrays.toString(Checks.memory(forge)), Arrays.toString(new int[] {MOST, 99, 98, 97, 96, 95, 94, LEAST}));
        for (int bad : new int[] {-1, 8, 9, LEAST, MOST}) {
            checks.refused("poke(" + bad + ", 1)", forge, Checks.ARGUMENT, () -> forge.poke(bad, 1));
            checks.refused("memory(" + bad + ")", forge, Checks.ARGUMENT, () -> forge.memory(bad));
        }
        String before = Arrays.toString(Checks.memory(forge));
        forge.stop(-1);
        started(forge);
        forge.run(5);
        forge.start();
        forge.forge();
        forge.clear();
        checks.sameText("memory stays", Arrays.toString(Checks.memory(forge)), before);
    }

    private void startNeedsAnImage() {
        ThumbForge forge = new ThumbForge();
        checks.refused("start() without a program", forge, Checks.STATE, forge::start);
        forge.stop(-1);
        checks.refused("start() before forge()", forge, Checks.STATE, forge::start);
        forge.forge();
        checks.same("forged, not started", forge.state(), ThumbForge.OFF);
        checks.same("at", forge.at(), -1);
        checks.refused("run(1) before start()", forge, Checks.STATE, () -> forge.run(1));
        forge.start();
        checks.same("started", forge.state(), ThumbForge.RUNS);
        checks.same("at", forge.at(), 0);
    }

    private void startBeginsAnew() {
        ThumbForge forge = new ThumbForge();
        forge.constant(0, 5);
        forge.constant(7, 6);
        forge.store(0, 7);
        forge.out(7);
        forge.stop(3);
        started(forge);
        forge.run(2000);
        checks.same("trapped", forge.state(), 3 + 12);
        checks.same("stored", forge.memory(5), 6);
        forge.start();
        checks.sameText("started again", Checks.seen(forge).replaceAll("halfwords.*memory", "memory"),
            "state 1 at 0 outputs 0; memory [0, 0, 0, 0, 0, 6, 0, 0]; variables [0, 0, 0, 0, 0, 0, 0, 0]; put out []");
        forge.run(1);
        forge.start();
        checks.same("started again while it ran", forge.at(), 0);
        checks.same("its variables", forge.variable(0), 0);
    }

    /** 1, 3, 2, 4, 1 halfwords. */
    private static ThumbForge ofSeveralLengths() {
        ThumbForge forge = new ThumbForge();
        forge.constant(0, 255);
        forge.constant(4, -7);
        forge.out(4);
        forge.compute(2, 5, 4, 4);
        forge.stop(-1);
        return started(forge);
    }

    private void runCounts() {
        ThumbForge forge = ofSeveralLengths();
        checks.same("run(0)", forge.run(0), 0);
        checks.same("at", forge.at(), 0);
        int[] due = {1, 3, 2, 4, 1};
        for (int i = 0; i < 5; i++) {
            checks.same("instruction " + i, forge.run(1), due[i]);
            checks.same("at behind it", forge.at(), Math.min(i + 1, 4));
        }
        checks.same("ended", forge.state(), ThumbForge.ENDED);
        ThumbForge again = ofSeveralLengths();
        checks.same("all at once", again.run(2000), 11);
        ThumbForge trap = new ThumbForge();
        trap.stop(0);
        checks.same("a TRAP counts", started(trap).run(2000), 1);
    }

    private void runRefuses() {
        ThumbForge off = new ThumbForge();
        ThumbForge ended = ofSeveralLengths();
        ended.run(2000);
        ThumbForge trapped = new ThumbForge();
        trapped.stop(1);
        started(trapped).run(1);
        for (ThumbForge forge : new ThumbForge[] {off, ended, trapped}) {
            checks.refused("run(0)", forge, Checks.STATE, () -> forge.run(0));
            checks.refused("run(1)", forge, Checks.STATE, () -> forge.run(1));
            checks.refused("run(2000)", forge, Checks.STATE, () -> forge.run(2000));
        }
        for (ThumbForge forge : new ThumbForge[] {off, ended, trapped, ofSeveralLengths()}) {
            for (int bad : new int[] {-1, 2001, LEAST, MOST}) {
                checks.refused("run(" + bad + ")", forge, Checks.ARGUMENT, () -> forge.run(bad));
            }
        }
    }

    private void runGoesOverByWholeInstructions() {
        ThumbForge forge = new ThumbForge();
        forge.store(4, 5);
        forge.jump(0);
        started(forge);
        checks.same("run(6)", forge.run(6), 6);
        checks.same("at", forge.at(), 1);
        checks.same("run(2)", forge.run(2), 7);
        checks.same("at", forge.at(), 1);
        checks.same("run(1)", forge.run(1), 1);
        checks.same("run(1999)", forge.run(1999), 2001);
        checks.same("run(2000)", forge.run(2000), 2002);

        ThumbForge jump = new ThumbForge();
        jump.jump(0);
        checks.same("a loop of one halfword", started(jump).run(2000), 2000);
        checks.same("at", jump.at(), 0);
    }

    private void longBranchCounts() {
        longBranch(0, 3);
        longBranch(4, 4);
        shortBranch(0, 2);
        shortBranch(4, 3);
    }

    /** V(a) is 0; V(1) is 0 the first time and 1 the second, when the branch is not taken. */
    private void longBranch(int a, int length) {
        ThumbForge forge = new ThumbForge();
        forge.branch(0, a, 1, 31);
        for (int i = 1; i < 31; i++) {
            forge.store(4, 5);
        }
        forge.constant(1, 1);
        forge.jump(0);
        started(forge);
        checks.same("its length", forge.place(1) - forge.place(0), length);
        checks.same("long, taken", forge.run(1), length);
        checks.same("at", forge.at(), 31);
        checks.same("CONSTANT and JUMP", forge.run(2), 2);
        checks.same("long, not taken", forge.run(1), length - 1);
        checks.same("at", forge.at(), 1);
        checks.same("behind it, and all round again", forge.run(30 * 6 + 3), 30 * 6 + 2 + length - 1);
    }

    private void shortBranch(int a, int length) {
        for (int other = 0; other < 2; other++) {
            ThumbForge forge = new ThumbForge();
            forge.constant(1, other);
            forge.branch(0, a, 1, 3);
            forge.out(0);
            forge.stop(-1);
            started(forge);
            forge.run(1);
            checks.same("short, V(1) = " + other, forge.run(1), length);
            checks.same("at", forge.at(), other == 0 ? 3 : 2);
        }
    }

    private void states() {
        for (int k : new int[] {0, 1, 128, 255}) {
            ThumbForge forge = new ThumbForge();
            forge.jump(2);
            forge.stop(-1);
            forge.stop(k);
            forge.stop(-1);
            started(forge);
            checks.same("runs", forge.state(), 1);
            forge.run(5);
            checks.same("TRAP " + k, forge.state(), 3 + 4 * k);
            checks.same("at the TRAP", forge.at(), 2);
            forge.forge();
            checks.same("forged again", forge.state(), 0);
            checks.same("at", forge.at(), -1);
        }
        ThumbForge end = ofSeveralLengths();
        end.run(10);
        checks.same("just before the END", end.state(), 1);
        checks.same("at the END", end.at(), 4);
        end.run(1);
        checks.same("ended", end.state(), 2);
        checks.same("at the END", end.at(), 4);
        end.clear();
        checks.same("off", end.state(), 0);
    }

    private void variables() {
        ThumbForge forge = new ThumbForge();
        for (int a = 0; a < 8; a++) {
            forge.constant(a, 1000003 * (a + 1));
        }
        forge.stop(-1);
        for (int bad : new int[] {-1, 8, LEAST, MOST}) {
            checks.refused("variable(" + bad + "), off", forge, Checks.ARGUMENT, () -> forge.variable(bad));
        }
        checks.refused("variable(0), off", forge, Checks.STATE, () -> forge.variable(0));
        forge.forge();
        checks.refused("variable(7), forged", forge, Checks.STATE, () -> forge.variable(7));
        forge.start();
        for (int a = 0; a < 8; a++) {
            checks.same("variable(" + a + ") at the start", forge.variable(a), 0);
        }
        forge.run(2000);
        for (int a = 0; a < 8; a++) {
            checks.same("variable(" + a + ") at the end", forge.variable(a), 1000003 * (a + 1));
        }
        for (int bad : new int[] {-1, 8, LEAST, MOST}) {
            checks.refused("variable(" + bad + "), ended", forge, Checks.ARGUMENT, () -> forge.variable(bad));
        }
        forge.forge();
        checks.refused("variable(0), forged again", forge, Checks.STATE, () -> forge.variable(0));
    }

    /** Puts out 1, 2, 3, .. with four halfwords each. */
    private static ThumbForge counting() {
        ThumbForge forge = new ThumbForge();
        forge.constant(1, 1);
        forge.compute(0, 0, 0, 1);
        forge.out(0);
        forge.jump(1);
        return started(forge);
    }

    private void outputsAreKept() {
        ThumbForge forge = counting();
        checks.refused("output(0) at the start", forge, Checks.NONE, () -> forge.output(0));
        forge.run(1);
        for (int n = 1; n <= 40; n++) {
            forge.run(4);
            checks.same("outputs", forge.outputs(), n);
            int least = Math.max(0, n - 16);
            for (int i = least; i < n; i++) {
                checks.same("output(" + i + ") of " + n, forge.output(i), i + 1);
            }
            for (int bad : new int[] {least - 1, n, n + 15, n + 16, -1, LEAST, MOST}) {
                checks.refused("output(" + bad + ") of " + n, forge, Checks.NONE, () -> forge.output(bad));
            }
        }
        forge.start();
        checks.same("outputs after start()", forge.outputs(), 0);
        forge.run(5);
        checks.same("outputs since", forge.outputs(), 1);
        checks.same("output(0) since", forge.output(0), 1);
        checks.refused("output(1) since", forge, Checks.NONE, () -> forge.output(1));
        forge.forge();
        checks.same("outputs after forge()", forge.outputs(), 0);
        checks.refused("output(0) after forge()", forge, Checks.NONE, () -> forge.output(0));
    }

    private void outputsOfALongRun() {
        ThumbForge forge = counting();
        forge.run(1);
        for (int i = 0; i < 400; i++) {
            forge.run(2000);
        }
        checks.same("outputs", forge.outputs(), 200000);
        checks.same("the latest", forge.output(199999), 200000);
        checks.same("the 16th latest", forge.output(199984), 199985);
        checks.refused("the 17th latest", forge, Checks.NONE, () -> forge.output(199983));
    }

    private void computes() {
        compute(0, MOST, 1, LEAST);
        compute(0, -5, 3, -2);
        compute(1, LEAST, 1, MOST);
        compute(1, 3, 5, -2);
        compute(2, 65536, 65536, 0);
        compute(2, -3, 7, -21);
        compute(2, 123456789, 987654321, -67153019);
        compute(3, 12, 10, 8);
        compute(3, -1, LEAST, LEAST);
        compute(4, 12, 10, 14);
        compute(5, 12, 10, 6);
        compute(5, -1, 1, -2);
        for (int op = 6; op < 8; op++) {
            compute(op, -3, 0, -3);
            compute(op, -3, 256, -3);
            compute(op, -1, 32, 0);
            compute(op, -1, 33, 0);
            compute(op, -1, 64, 0);
            compute(op, -1, 255, 0);
            compute(op, -1, -1, 0);
            compute(op, -1, 128, 0);
        }
        compute(6, 3, 1, 6);
        compute(6, 3, 31, LEAST);
        compute(6, 1, 257, 2);
        compute(6, 1, -255, 2);
        compute(7, -1, 1, MOST);
        compute(7, -1, 31, 1);
        compute(7, 8, 0x7fffff02, 2);
    }

    private void compute(int op, int x, int y, int due) {
        for (int shape = 0; shape < 8; shape++) {
            int a = (shape & 1) == 0 ? 1 : 5;
            int b = (shape & 2) == 0 ? 2 : 6;
            int d = (shape & 4) == 0 ? 3 : 7;
            checks.same(x + " op " + op + " " + y, computed(op, d, a, b, x, y), due);
        }
        checks.same(x + " op " + op + " " + y + " into the first", computed(op, 1, 1, 2, x, y), due);
        checks.same(x + " op " + op + " " + y + " into the second", computed(op, 6, 5, 6, x, y), due);
    }

    private static int computed(int op, int d, int a, int b, int x, int y) {
        ThumbForge forge = new ThumbForge();
        forge.constant(a, x);
        forge.constant(b, y);
        forge.compute(op, d, a, b);
        forge.stop(-1);
        started(forge).run(2000);
        return forge.variable(d);
    }

    private void relations() {
        int[] numbers = {0, 1, 2, -1, -2, LEAST, MOST};
        for (int x : numbers) {
            for (int y : numbers) {
                long left = x & 0xffffffffL;
                long right = y & 0xffffffffL;
                relation(0, x, y, x == y);
                relation(1, x, y, x != y);
                relation(2, x, y, left >= right);
                relation(3, x, y, left < right);
                relation(8, x, y, left > right);
                relation(9, x, y, left <= right);
                relation(10, x, y, x >= y);
                relation(11, x, y, x < y);
                relation(12, x, y, x > y);
                relation(13, x, y, x <= y);
            }
        }
    }

    private void relation(int c, int x, int y, boolean due) {
        ThumbForge forge = new ThumbForge();
        forge.constant(0, x);
        forge.constant(7, y);
        forge.branch(c, 0, 7, 4);
        forge.stop(0);
        forge.stop(1);
        started(forge).run(2000);
        checks.same(x + " relation " + c + " " + y, forge.state(), due ? 7 : 3);
    }

    private void loadsAndStores() {
        for (int x : new int[] {0, 7, 8, 9, -1, LEAST, MOST, 260}) {
            ThumbForge forge = new ThumbForge();
            for (int i = 0; i < 8; i++) {
                forge.poke(i, 100 + i);
            }
            forge.constant(6, x);
            forge.load(1, 6);
            forge.load(6, 6);
            forge.constant(0, x);
            forge.constant(5, -9);
            forge.store(0, 5);
            forge.load(7, 0);
            forge.stop(-1);
            started(forge).run(2000);
            checks.same("load at " + x, forge.variable(1), 100 + (x & 7));
            checks.same("load into the same", forge.variable(6), 100 + (x & 7));
            checks.same("stored at " + x, forge.memory(x & 7), -9);
            checks.same("and loaded", forge.variable(7), -9);
            checks.same("the next word", forge.memory(x + 1 & 7), 100 + (x + 1 & 7));
        }
    }

    private void pokeWhileItRuns() {
        ThumbForge forge = new ThumbForge();
        forge.load(4, 0);
        forge.out(4);
        forge.jump(0);
        started(forge);
        forge.run(1);
        forge.poke(0, 77);
        checks.same("still runs", forge.state(), 1);
        checks.same("still there", forge.at(), 1);
        forge.run(8);
        checks.same("before", forge.output(0), 0);
        forge.run(1);
        checks.same("after", forge.output(1), 77);
    }
}
