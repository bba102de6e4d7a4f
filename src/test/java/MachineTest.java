import java.util.Arrays;

/** Promises 14 to 22: memory, starting, running, and what can be seen of it. Above each test stand the words that it holds. */
public final class MachineTest {
    private static final int LEAST = Forges.LEAST, MOST = Forges.MOST;
    private static final int[] NO_WORDS = {-1, 8, LEAST, MOST};
    private static final int[] NO_VARIABLES = {-1, 8, LEAST, MOST};
    private static final int[] NO_RUNS = {-1, 2001, LEAST, MOST};

    private final Checks checks = new Checks();

    public static void main(String[] args) {
        MachineTest test = new MachineTest();
        test.memoryWords();
        test.noSuchWords();
        test.memoryStays();
        test.memoryIsSetAgainOrStoredTo();
        test.pokeChangesNothingElse();
        test.startNeedsAnImage();
        test.startBeginsAnew();
        test.startKeepsTheImageAndMemory();
        test.runNothing();
        test.runToTheLastOne();
        test.runWholeInstructions();
        test.runUpTo2000();
        test.runOfEachInstruction();
        test.runCountsEndAndTrap();
        test.runOfLongBranches();
        test.runOfShortBranches();
        test.runRefusesNumbers();
        test.runRefusesWhenItDoesNotRun();
        test.runRefusesANumberFirst();
        test.states();
        test.trapIsForgotten();
        test.atTheNext();
        test.atTheStop();
        test.atIsNoneWhenOff();
        test.variables();
        test.noSuchVariables();
        test.outputsWhenOff();
        test.outputsSinceTheStart();
        test.theLatest16();
        test.noSuchOutputs();
        test.outputsStayWhenItStops();
        test.readingChangesNothing();
        test.checks.finish();
    }

    // Promise 14: "Sets a word of memory"; Promise 15: "A word of memory."; Terms: "the words 0 .. 7, all ints"
    private void memoryWords() {
        ThumbForge forge = new ThumbForge();
        for (int x = 0; x < 8; x++) {
            checks.same("memory(" + x + ") of a new object", forge.memory(x), 0);
            forge.poke(x, 100 - x);
        }
        forge.poke(7, LEAST);
        forge.poke(0, MOST);
        checks.sameText("memory", Arrays.toString(Look.memory(forge)),
            Arrays.toString(new int[] {MOST, 99, 98, 97, 96, 95, 94, LEAST}));
    }

    // Promises 14 and 15: "IllegalArgumentException when x is not 0 .. 7."
    private void noSuchWords() {
        for (int bad : NO_WORDS) {
            checks.refused("poke(" + bad + ", 1)", Checks.ARGUMENT, Forges.WITH_ROOM, f -> f.poke(bad, 1));
            checks.refused("memory(" + bad + ")", Checks.ARGUMENT, Forges.WITH_ROOM, f -> f.memory(bad));
        }
    }

    // Promise 14: "(it stays until it is set again or stored to)"
    private void memoryStays() {
        ThumbForge forge = new ThumbForge();
        for (int x = 0; x < 8; x++) {
            forge.poke(x, -5 - x);
        }
        String due = Arrays.toString(Look.memory(forge));
        stays("append", due, forge, f -> f.load(0, 0));
        stays("a refused append", due, forge, f -> Look.thrown(() -> f.load(8, 8)));
        stays("a refused forge", due, forge, f -> Look.thrown(f::forge));
        forge.stop(1);
        stays("forge", due, forge, ThumbForge::forge);
        stays("start", due, forge, ThumbForge::start);
        stays("run to the TRAP", due, forge, f -> f.run(2000));
        stays("start again", due, forge, ThumbForge::start);
        stays("forge again", due, forge, ThumbForge::forge);
        stays("clear", due, forge, ThumbForge::clear);
        stays("another program", due, forge, f -> f.stop(-1));
        stays("forge, start and run to the END", due, forge, f -> Forges.run(f, 2000));
    }

    private void stays(String what, String due, ThumbForge forge, Forges.Call call) {
        call.on(forge);
        checks.sameText("memory after " + what, Arrays.toString(Look.memory(forge)), due);
    }

    private void memoryIsSetAgainOrStoredTo() {
        ThumbForge forge = new ThumbForge();
        forge.poke(3, 30);
        forge.poke(4, 40);
        forge.poke(3, 31);
        checks.same("set again", forge.memory(3), 31);
        forge.constant(0, 3);
        forge.constant(1, 32);
        forge.store(0, 1);
        forge.stop(-1);
        Forges.run(forge, 2);
        checks.same("before the STORE", forge.memory(3), 31);
        forge.run(1);
        checks.same("stored to", forge.memory(3), 32);
        checks.same("the next one", forge.memory(4), 40);
        forge.poke(3, 33);
        checks.same("set behind it", forge.memory(3), 33);
        forge.run(1);
        forge.clear();
        checks.same("stays", forge.memory(3), 33);
    }

    private void pokeChangesNothingElse() {
        for (Forges.State state : Forges.WITH_ROOM) {
            ThumbForge forge = state.maker().make();
            int[] memory = Look.memory(forge);
            String before = Look.seen(forge);
            forge.poke(2, 222);
            memory[2] = 222;
            checks.sameText("poke, " + state.name(), Look.seen(forge),
                before.replaceAll("memory \\[[^]]*]", "memory " + Arrays.toString(memory)));
        }
        ThumbForge forge = Forges.started(f -> { f.load(4, 0); f.out(4); f.jump(0); });
        forge.run(1);
        forge.poke(0, 77);
        forge.run(8);
        checks.same("what was loaded before", forge.output(0), 0);
        forge.run(1);
        checks.same("what was loaded after", forge.output(1), 77);
    }

    // Promise 16: "IllegalStateException when there is no image."
    private void startNeedsAnImage() {
        checks.refused("start()", Checks.STATE, Forges.WITHOUT_IMAGE, ThumbForge::start);
        ThumbForge forge = Forges.notForged();
        checks.throwsOn("start() before forge()", Checks.STATE, forge, ThumbForge::start);
        forge.forge();
        checks.same("forged, not started", forge.state(), ThumbForge.OFF);
        forge.start();
        checks.same("started", forge.state(), ThumbForge.RUNS);
    }

    // Promise 16: "The machine runs from instruction 0 on: all variables are 0, nothing was put out."
    private void startBeginsAnew() {
        for (Forges.State state : Forges.WITH_IMAGE) {
            ThumbForge forge = state.maker().make();
            forge.start();
            checks.same("runs, " + state.name(), forge.state(), ThumbForge.RUNS);
            checks.same("from 0 on", forge.at(), 0);
            checks.sameText("all variables", Arrays.toString(Look.variables(forge)), "[0, 0, 0, 0, 0, 0, 0, 0]");
            checks.same("nothing was put out", forge.outputs(), 0);
            checks.throwsOn("not one", Checks.NONE, forge, f -> f.output(0));
            checks.throwsOn("not one of the old", Checks.NONE, forge, f -> f.output(17));
            checks.same("all of it", forge.run(2000), 5 + 20 * 10 + 1);
            checks.same("put out since", forge.outputs(), 20);
            checks.same("the latest", forge.output(19), 20);
        }
    }

    private void startKeepsTheImageAndMemory() {
        for (Forges.State state : Forges.WITH_IMAGE) {
            ThumbForge forge = state.maker().make();
            String image = Arrays.toString(Look.image(forge)) + Arrays.toString(Look.places(forge));
            String memory = Arrays.toString(Look.memory(forge));
            forge.start();
            checks.sameText("image", Arrays.toString(Look.image(forge)) + Arrays.toString(Look.places(forge)), image);
            checks.sameText("memory", Arrays.toString(Look.memory(forge)), memory);
        }
    }

    // Promise 17: "Does instructions as long as it runs and fewer than n halfwords were done in this call"
    private void runNothing() {
        ThumbForge forge = Forges.running();
        checks.same("run(0)", forge.run(0), 0);
        checks.changesNothing("run(0)", new Forges.State[] {new Forges.State("running", Forges::running)}, f -> f.run(0));
        ThumbForge fresh = Forges.started(f -> f.stop(-1));
        checks.same("run(0) at the start", fresh.run(0), 0);
        checks.same("nothing was done", fresh.state(), ThumbForge.RUNS);
    }

    private void runToTheLastOne() {
        ThumbForge all = ofSeveralLengths();
        checks.same("all at once", all.run(2000), 11);
        ThumbForge just = ofSeveralLengths();
        checks.same("just all", just.run(11), 11);
        checks.same("ended", just.state(), ThumbForge.ENDED);
        ThumbForge less = ofSeveralLengths();
        checks.same("all but one", less.run(10), 10);
        checks.same("not ended", less.state(), ThumbForge.RUNS);
        checks.same("the END counts", less.run(1), 1);
        checks.same("ended at last", less.state(), ThumbForge.ENDED);
    }

    /** 1, 3, 2, 4, 1 halfwords. */
    private static ThumbForge ofSeveralLengths() {
        return Forges.started(f -> {
            f.constant(0, 255);
            f.constant(4, -7);
            f.out(4);
            f.compute(2, 5, 4, 4);
            f.stop(-1);
        });
    }

    // Promise 17: "Of an instruction all its halfwords are done"
    private void runWholeInstructions() {
        int[] dueOf = {0, 1, 4, 4, 4, 6, 6, 10, 10, 10, 10, 11, 11};
        int[] atOf = {0, 1, 2, 2, 2, 3, 3, 4, 4, 4, 4, 4, 4};
        for (int n = 0; n < dueOf.length; n++) {
            ThumbForge forge = ofSeveralLengths();
            checks.same("run(" + n + ")", forge.run(n), dueOf[n]);
            checks.same("at behind run(" + n + ")", forge.at(), atOf[n]);
        }
        ThumbForge forge = ofSeveralLengths();
        int[] lengths = {1, 3, 2, 4, 1};
        for (int i = 0; i < 5; i++) {
            checks.same("instruction " + i, forge.run(1), lengths[i]);
        }
    }

    // Promise 17: "n is .. 0 .. 2000"
    private void runUpTo2000() {
        ThumbForge jump = Forges.started(f -> f.jump(0));
        checks.same("a loop of one halfword", jump.run(2000), 2000);
        checks.same("at", jump.at(), 0);
        checks.same("again", jump.run(1999), 1999);

        ThumbForge store = Forges.started(f -> { f.store(4, 5); f.jump(0); });
        checks.same("run(6)", store.run(6), 6);
        checks.same("run(2)", store.run(2), 7);
        checks.same("run(1)", store.run(1), 1);
        checks.same("run(1999)", store.run(1999), 2001);
        checks.same("run(2000)", store.run(2000), 2002);

        ThumbForge most = Forges.started(f -> {
            for (int i = 0; i < 4; i++) {
                f.constant(0, i);
            }
            f.load(4, 5);
            f.jump(4);
        });
        checks.same("1999, and a whole LOAD more", most.run(2000), 4 + 285 * 7 + 6);
    }

    private void runOfEachInstruction() {
        lengthIsDone("CONSTANT", f -> f.constant(0, 255), 1);
        lengthIsDone("CONSTANT in a slot", f -> f.constant(4, 255), 2);
        lengthIsDone("CONSTANT below 0", f -> f.constant(0, -1), 2);
        lengthIsDone("CONSTANT below 0 in a slot", f -> f.constant(4, -256), 3);
        lengthIsDone("CONSTANT shifted", f -> f.constant(0, 256), 2);
        lengthIsDone("CONSTANT shifted in a slot", f -> f.constant(4, LEAST), 3);
        lengthIsDone("literal", f -> f.constant(0, 257), 1);
        lengthIsDone("literal in a slot", f -> f.constant(4, 257), 2);
        lengthIsDone("+", f -> f.compute(0, 0, 0, 0), 1);
        lengthIsDone("- in slots", f -> f.compute(1, 4, 4, 4), 4);
        lengthIsDone("*", f -> f.compute(2, 0, 0, 0), 3);
        lengthIsDone("shift in slots", f -> f.compute(7, 4, 4, 4), 4);
        lengthIsDone("LOAD", f -> f.load(0, 0), 4);
        lengthIsDone("LOAD in slots", f -> f.load(4, 4), 6);
        lengthIsDone("STORE", f -> f.store(0, 0), 4);
        lengthIsDone("STORE in slots", f -> f.store(4, 4), 6);
        lengthIsDone("JUMP", f -> f.jump(1), 1);
        lengthIsDone("BRANCH, taken", f -> f.branch(0, 0, 0, 1), 2);
        lengthIsDone("BRANCH, not taken", f -> f.branch(1, 0, 0, 0), 2);
        lengthIsDone("BRANCH in slots", f -> f.branch(0, 4, 5, 1), 4);
        lengthIsDone("OUT", f -> f.out(0), 2);
        lengthIsDone("OUT of a slot", f -> f.out(4), 2);
    }

    private void lengthIsDone(String what, Forges.Call write, int due) {
        ThumbForge forge = Forges.started(f -> { write.on(f); f.stop(-1); });
        checks.same(what + " is so long", forge.place(1) - forge.place(0), due);
        checks.same(what + " is done whole", forge.run(1), due);
        checks.same(what + " goes on", forge.at(), 1);
    }

    // Promise 17: "(END and TRAP count; what comes before instruction 0 does not.)"
    private void runCountsEndAndTrap() {
        checks.same("an END alone", Forges.started(f -> f.stop(-1)).run(2000), 1);
        checks.same("a TRAP alone", Forges.started(f -> f.stop(0)).run(2000), 1);
        ThumbForge again = Forges.started(f -> f.stop(-1));
        again.run(1);
        again.start();
        checks.same("again", again.run(1), 1);
        checks.same("ended", again.state(), ThumbForge.ENDED);
    }

    // Promise 17: "but of a long branch that is not taken the last one is not"
    private void runOfLongBranches() {
        longBranch(0, 3);
        longBranch(4, 4);
    }

    /** V(a) is 0; V(1) is 0 the first time and 1 the second, when the branch is not taken. */
    private void longBranch(int a, int length) {
        Forges.Call write = f -> {
            f.branch(0, a, 1, 31);
            for (int i = 1; i < 31; i++) {
                f.store(4, 5);
            }
            f.constant(1, 1);
            f.jump(0);
        };
        ThumbForge forge = Forges.started(write);
        checks.same("its length", forge.place(1) - forge.place(0), length);
        checks.same("long, taken", forge.run(1), length);
        checks.same("at", forge.at(), 31);
        checks.same("CONSTANT and JUMP", forge.run(2), 2);
        checks.same("long, not taken", forge.run(1), length - 1);
        checks.same("at", forge.at(), 1);
        checks.same("behind it, and all round again", forge.run(30 * 6 + 3), 30 * 6 + 2 + length - 1);

        ThumbForge atOnce = Forges.started(write);
        checks.same("with the halfwords of one not taken", atOnce.run(length + 2 + length - 1), length + 2 + length - 1);
        checks.same("at", atOnce.at(), 1);
        ThumbForge oneMore = Forges.started(write);
        checks.same("with one halfword more", oneMore.run(length + 2 + length), length + 2 + length - 1 + 6);
        checks.same("at", oneMore.at(), 2);
    }

    private void runOfShortBranches() {
        for (int a : new int[] {0, 4}) {
            for (int other = 0; other < 2; other++) {
                int k = other;
                ThumbForge forge = Forges.started(f -> { f.constant(1, k); f.branch(0, a, 1, 3); f.out(0); f.stop(-1); });
                forge.run(1);
                checks.same("short, V(1) = " + other, forge.run(1), a == 0 ? 2 : 3);
                checks.same("at", forge.at(), other == 0 ? 3 : 2);
            }
        }
    }

    // Promise 17: "IllegalArgumentException when n is not 0 .. 2000"
    private void runRefusesNumbers() {
        for (int bad : NO_RUNS) {
            checks.refused("run(" + bad + "), running", Checks.ARGUMENT, Forges::running, f -> f.run(bad));
        }
    }

    // Promise 17: "IllegalStateException when it does not run"
    private void runRefusesWhenItDoesNotRun() {
        Forges.State[] stopped = {new Forges.State("ended", Forges::ended), new Forges.State("trapped", Forges::trapped)};
        for (int n : new int[] {0, 1, 2000}) {
            checks.refused("run(" + n + ")", Checks.STATE, Forges.MACHINE_OFF, f -> f.run(n));
            checks.refused("run(" + n + ")", Checks.STATE, Forges.WITHOUT_IMAGE, f -> f.run(n));
            checks.refused("run(" + n + ")", Checks.STATE, stopped, f -> f.run(n));
        }
    }

    /** The document tells no order for these; what it names first comes first. */
    private void runRefusesANumberFirst() {
        for (int bad : NO_RUNS) {
            checks.refused("run(" + bad + "), new", Checks.ARGUMENT, Forges::empty, f -> f.run(bad));
            checks.refused("run(" + bad + "), forged", Checks.ARGUMENT, Forges::forged, f -> f.run(bad));
            checks.refused("run(" + bad + "), ended", Checks.ARGUMENT, Forges::ended, f -> f.run(bad));
        }
        for (int bad : NO_VARIABLES) {
            checks.refused("variable(" + bad + "), new", Checks.ARGUMENT, Forges::empty, f -> f.variable(bad));
            checks.refused("variable(" + bad + "), forged", Checks.ARGUMENT, Forges::forged, f -> f.variable(bad));
        }
    }

    // Promise 18: "OFF, RUNS, ENDED; or TRAPPED plus 4 times the k of the TRAP."
    private void states() {
        for (Forges.State state : Forges.MACHINE_OFF) {
            checks.same("state(), " + state.name(), state.maker().make().state(), 0);
        }
        checks.same("state(), started", Forges.started(f -> f.stop(0)).state(), 1);
        checks.same("state(), running", Forges.running().state(), 1);
        checks.same("state(), ended", Forges.ended().state(), 2);
        for (int k = 0; k <= 255; k++) {
            int trap = k;
            checks.same("TRAP " + k, Forges.done(f -> f.stop(trap)).state(), 3 + 4 * k);
        }
    }

    private void trapIsForgotten() {
        ThumbForge forge = Forges.done(f -> { f.load(0, 1); f.branch(0, 0, 1, 3); f.stop(-1); f.stop(255); });
        checks.same("trapped", forge.state(), 3 + 4 * 255);
        forge.poke(0, 1);
        forge.start();
        checks.same("runs again", forge.state(), 1);
        forge.run(2000);
        checks.same("ended now", forge.state(), 2);
        forge.forge();
        checks.same("off", forge.state(), 0);
        forge.poke(0, 0);
        Forges.run(forge, 2000);
        checks.same("trapped again", forge.state(), 3 + 4 * 255);
        forge.clear();
        checks.same("off after clear", forge.state(), 0);
        forge.stop(0);
        Forges.run(forge, 1);
        checks.same("another TRAP", forge.state(), 3);
    }

    // Promise 19: "The number of the next instruction"
    private void atTheNext() {
        ThumbForge forge = Forges.started(f -> {
            f.constant(0, 1);
            f.branch(1, 0, 1, 4);
            f.stop(-1);
            f.jump(0);
            f.jump(3);
        });
        int[] due = {0, 1, 4, 3, 0, 1};
        for (int i = 0; i < due.length; i++) {
            checks.same("at, " + i + " done", forge.at(), due[i]);
            forge.run(1);
        }
    }

    // Promise 19: "of the END or TRAP, when that was done"
    private void atTheStop() {
        for (int k : new int[] {-1, 0, 255}) {
            for (int before : new int[] {0, 5, 47}) {
                ThumbForge forge = Forges.started(f -> {
                    for (int i = 0; i < before; i++) {
                        f.constant(0, i);
                    }
                    f.stop(k);
                });
                forge.run(before);
                checks.same("before stop " + k, forge.at(), before);
                checks.same("it runs", forge.state(), ThumbForge.RUNS);
                forge.run(1);
                checks.same("of stop " + k, forge.at(), before);
                checks.same("its state", forge.state(), k == -1 ? 2 : 3 + 4 * k);
            }
        }
        ThumbForge midst = Forges.done(f -> { f.jump(2); f.stop(1); f.stop(2); f.stop(3); });
        checks.same("in the midst", midst.at(), 2);
    }

    // Promise 19: "-1 when the machine is off"
    private void atIsNoneWhenOff() {
        for (Forges.State state : Forges.MACHINE_OFF) {
            checks.same("at(), " + state.name(), state.maker().make().at(), -1);
        }
        for (Forges.State state : Forges.STARTED) {
            ThumbForge forge = state.maker().make();
            checks.holds("at(), " + state.name(), forge.at() >= 0);
            forge.clear();
            checks.same("at() after clear, " + state.name(), forge.at(), -1);
        }
    }

    // Promise 20: "V(a)."; "IllegalStateException when the machine is off."
    private void variables() {
        ThumbForge forge = new ThumbForge();
        for (int a = 0; a < 8; a++) {
            forge.constant(a, 1000003 * (a + 1));
        }
        forge.stop(-1);
        forge.forge();
        forge.start();
        for (int a = 0; a < 8; a++) {
            checks.same("variable(" + a + ") at the start", forge.variable(a), 0);
        }
        forge.run(2000);
        for (int a = 0; a < 8; a++) {
            checks.same("variable(" + a + ") at the END", forge.variable(a), 1000003 * (a + 1));
        }
        checks.sameText("variables at the TRAP", Arrays.toString(Look.variables(Forges.trapped())), "[20, 1, 0, 0, 0, 0, 70001, 20]");
        for (int a = 0; a < 8; a++) {
            int variable = a;
            checks.refused("variable(" + a + ")", Checks.STATE, Forges.MACHINE_OFF, f -> f.variable(variable));
            checks.refused("variable(" + a + ")", Checks.STATE, Forges.WITHOUT_IMAGE, f -> f.variable(variable));
        }
    }

    // Promise 20: "IllegalArgumentException when there is no such variable"
    private void noSuchVariables() {
        for (int bad : NO_VARIABLES) {
            checks.refused("variable(" + bad + ")", Checks.ARGUMENT, Forges.STARTED, f -> f.variable(bad));
        }
    }

    // Promise 21: "0 when the machine is off"
    private void outputsWhenOff() {
        for (Forges.State state : Forges.MACHINE_OFF) {
            checks.same("outputs(), " + state.name(), state.maker().make().outputs(), 0);
        }
        for (Forges.State state : Forges.WITHOUT_IMAGE) {
            checks.same("outputs(), " + state.name(), state.maker().make().outputs(), 0);
        }
    }

    // Promise 21: "How many numbers were put out since the start"
    private void outputsSinceTheStart() {
        ThumbForge forge = Forges.forged();
        forge.start();
        checks.same("none at the start", forge.outputs(), 0);
        forge.run(6);
        checks.same("none before the first", forge.outputs(), 0);
        for (int n = 1; n <= 20; n++) {
            forge.run(1);
            checks.same("outputs behind OUT " + n, forge.outputs(), n);
            forge.run(8);
            checks.same("outputs before the next", forge.outputs(), n);
        }
        checks.same("outputs at the END", Forges.ended().outputs(), 20);
        checks.same("outputs at the TRAP", Forges.trapped().outputs(), 20);
    }

    /** Puts out 1, 2, 3, .. with four halfwords each, and has put out n of them. */
    private static ThumbForge having(int n) {
        ThumbForge forge = Forges.started(f -> {
            f.constant(1, 1);
            f.compute(0, 0, 0, 1);
            f.out(0);
            f.jump(1);
        });
        forge.run(1);
        for (int left = n; left > 0; left -= 500) {
            forge.run(4 * Math.min(left, 500));
        }
        return forge;
    }

    // Promise 22: "The number put out as the i-th one (from 0). .. the latest 16"
    private void theLatest16() {
        for (int n : new int[] {0, 1, 2, 15, 16, 17, 18, 31, 32, 33, 100, 500, 65537, 100000}) {
            ThumbForge forge = having(n);
            checks.same("outputs", forge.outputs(), n);
            int least = Math.max(0, n - 16);
            for (int i = least; i < n; i++) {
                checks.same("output(" + i + ") of " + n, forge.output(i), i + 1);
            }
            for (int bad : new int[] {least - 1, n, n + 1, n + 15, n + 16, -1, LEAST, MOST}) {
                checks.throwsOn("output(" + bad + ") of " + n, Checks.NONE, forge, f -> f.output(bad));
            }
        }
    }

    // Promise 22: "NoSuchElementException when there was none such, or it is not among the latest 16."
    private void noSuchOutputs() {
        for (int bad : new int[] {-1, 0, 1, 15, 16, 17, LEAST, MOST}) {
            checks.refused("output(" + bad + ")", Checks.NONE, Forges.MACHINE_OFF, f -> f.output(bad));
            checks.refused("output(" + bad + ")", Checks.NONE, Forges.WITHOUT_IMAGE, f -> f.output(bad));
            checks.refused("output(" + bad + ") at the start", Checks.NONE, () -> having(0), f -> f.output(bad));
        }
        for (int bad : new int[] {-1, 0, 1, 18, 19, LEAST, MOST}) {
            checks.refused("output(" + bad + ") of 18", Checks.NONE, Forges::running, f -> f.output(bad));
        }
        for (int bad : new int[] {-1, 3, 20, 21}) {
            checks.refused("output(" + bad + ") of 20, ended", Checks.NONE, Forges::ended, f -> f.output(bad));
            checks.refused("output(" + bad + ") of 20, trapped", Checks.NONE, Forges::trapped, f -> f.output(bad));
        }
    }

    private void outputsStayWhenItStops() {
        for (ThumbForge forge : new ThumbForge[] {Forges.ended(), Forges.trapped()}) {
            for (int i = 4; i < 20; i++) {
                checks.same("output(" + i + ")", forge.output(i), i + 1);
            }
        }
        int[] ends = {LEAST, -1, 0, MOST};
        ThumbForge forge = Forges.done(f -> {
            for (int k : ends) {
                f.constant(5, k);
                f.out(5);
            }
            f.stop(-1);
        });
        checks.sameText("any int is put out", Arrays.toString(Look.keptOutputs(forge)), Arrays.toString(ends));
    }

    private void readingChangesNothing() {
        checks.changesNothing("memory(7)", Forges.WITH_ROOM, f -> f.memory(7));
        checks.changesNothing("state()", Forges.WITH_ROOM, ThumbForge::state);
        checks.changesNothing("at()", Forges.WITH_ROOM, ThumbForge::at);
        checks.changesNothing("outputs()", Forges.WITH_ROOM, ThumbForge::outputs);
        checks.changesNothing("variable(7)", Forges.STARTED, f -> f.variable(7));
        Forges.State[] running = {new Forges.State("running", Forges::running)};
        checks.changesNothing("output(2)", running, f -> f.output(2));
        checks.changesNothing("output(17)", running, f -> f.output(17));
    }
}
