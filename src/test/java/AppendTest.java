/** Promises 1 to 10: a new object, all that appends, and clear. */
public final class AppendTest {
    private static final int[] NO_VARIABLES = {-1, 8, 9, 255, Integer.MIN_VALUE, Integer.MAX_VALUE};
    private static final int[] NO_TARGETS = {-1, 48, 49, Integer.MIN_VALUE, Integer.MAX_VALUE};
    private static final int[] RELATIONS = {0, 1, 2, 3, 8, 9, 10, 11, 12, 13};

    private final Checks checks = new Checks();

    public static void main(String[] args) {
        AppendTest test = new AppendTest();
        test.newObject();
        test.eachAnswersItsNumber();
        test.edgesAreTaken();
        test.wrongArguments(new ThumbForge());
        test.wrongArguments(forged());
        test.wrongArguments(running());
        test.wrongArguments(full());
        test.fullProgram();
        test.changesTakeTheImageAway();
        test.clearEmpties();
        test.checks.finish();
    }

    private static ThumbForge forged() {
        ThumbForge forge = new ThumbForge();
        forge.constant(0, 7);
        forge.out(0);
        forge.jump(1);
        forge.forge();
        return forge;
    }

    private static ThumbForge running() {
        ThumbForge forge = forged();
        forge.poke(3, 33);
        forge.start();
        forge.run(6);
        return forge;
    }

    private static ThumbForge full() {
        ThumbForge forge = new ThumbForge();
        for (int i = 0; i < 48; i++) {
            forge.stop(i);
        }
        return forge;
    }

    private void newObject() {
        ThumbForge forge = new ThumbForge();
        checks.sameText("a new object", Checks.seen(forge),
            "state 0 at -1 outputs 0; halfwords []; places []; memory [0, 0, 0, 0, 0, 0, 0, 0]; variables none; put out []");
        checks.refused("forge() of nothing", forge, Checks.STATE, forge::forge);
        checks.refused("start() of nothing", forge, Checks.STATE, forge::start);
        checks.refused("run() of nothing", forge, Checks.STATE, () -> forge.run(1));
        checks.same("the first number", forge.stop(-1), 0);
        ThumbForge other = new ThumbForge();
        other.poke(0, 5);
        checks.same("objects share nothing", forge.memory(0), 0);
        checks.same("nor a program", other.stop(-1), 0);
    }

    private void eachAnswersItsNumber() {
        ThumbForge forge = new ThumbForge();
        checks.same("constant", forge.constant(7, 5), 0);
        checks.same("compute", forge.compute(7, 7, 7, 7), 1);
        checks.same("load", forge.load(7, 7), 2);
        checks.same("store", forge.store(7, 7), 3);
        checks.same("jump", forge.jump(47), 4);
        checks.same("branch", forge.branch(13, 7, 7, 47), 5);
        checks.same("out", forge.out(7), 6);
        checks.same("stop, END", forge.stop(-1), 7);
        checks.same("stop, TRAP", forge.stop(255), 8);
    }

    private void edgesAreTaken() {
        ThumbForge forge = new ThumbForge();
        int due = 0;
        for (int variable = 0; variable < 8; variable++) {
            checks.same("constant(" + variable + ", least)", forge.constant(variable, Integer.MIN_VALUE), due++);
        }
        for (int op = 0; op < 8; op++) {
            checks.same("compute(" + op + ")", forge.compute(op, 0, 0, 0), due++);
        }
        for (int relation : RELATIONS) {
            checks.same("branch(" + relation + ")", forge.branch(relation, 0, 0, 0), due++);
        }
        checks.same("jump(0)", forge.jump(0), due++);
        checks.same("stop(0)", forge.stop(0), due++);
        checks.same("constant(0, most)", forge.constant(0, Integer.MAX_VALUE), due);
    }

    private void wrongArguments(ThumbForge forge) {
        for (int bad : NO_VARIABLES) {
            wrong(forge, "constant(" + bad + ", 0)", () -> forge.constant(bad, 0));
            wrong(forge, "compute(0, " + bad + ", 0, 0)", () -> forge.compute(0, bad, 0, 0));
            wrong(forge, "compute(0, 0, " + bad + ", 0)", () -> forge.compute(0, 0, bad, 0));
            wrong(forge, "compute(0, 0, 0, " + bad + ")", () -> forge.compute(0, 0, 0, bad));
            wrong(forge, "load(" + bad + ", 0)", () -> forge.load(bad, 0));
            wrong(forge, "load(0, " + bad + ")", () -> forge.load(0, bad));
            wrong(forge, "store(" + bad + ", 0)", () -> forge.store(bad, 0));
            wrong(forge, "store(0, " + bad + ")", () -> forge.store(0, bad));
            wrong(forge, "branch(0, " + bad + ", 0, 0)", () -> forge.branch(0, bad, 0, 0));
            wrong(forge, "branch(0, 0, " + bad + ", 0)", () -> forge.branch(0, 0, bad, 0));
            wrong(forge, "out(" + bad + ")", () -> forge.out(bad));
            wrong(forge, "compute(" + bad + ", 0, 0, 0)", () -> forge.compute(bad, 0, 0, 0));
        }
        for (int bad : NO_TARGETS) {
            wrong(forge, "jump(" + bad + ")", () -> forge.jump(bad));
            wrong(forge, "branch(0, 0, 0, " + bad + ")", () -> forge.branch(0, 0, 0, bad));
        }
        for (int bad : new int[] {-1, 4, 5, 6, 7, 14, 15, 16, Integer.MIN_VALUE, Integer.MAX_VALUE}) {
            wrong(forge, "branch(" + bad + ", 0, 0, 0)", () -> forge.branch(bad, 0, 0, 0));
        }
        for (int bad : new int[] {-2, 256, Integer.MIN_VALUE, Integer.MAX_VALUE}) {
            wrong(forge, "stop(" + bad + ")", () -> forge.stop(bad));
        }
    }

    private void wrong(ThumbForge forge, String what, Runnable call) {
        checks.refused(what, forge, Checks.ARGUMENT, call);
    }

    private void fullProgram() {
        ThumbForge forge = full();
        checks.same("48 instructions can be forged", forge.forge(), 1 + 48 + 1 + 2);
        forge.start();
        forge.run(1);
        fullFor(forge, "constant", () -> forge.constant(0, 0));
        fullFor(forge, "compute", () -> forge.compute(0, 0, 0, 0));
        fullFor(forge, "load", () -> forge.load(0, 0));
        fullFor(forge, "store", () -> forge.store(0, 0));
        fullFor(forge, "jump", () -> forge.jump(0));
        fullFor(forge, "branch", () -> forge.branch(0, 0, 0, 0));
        fullFor(forge, "out", () -> forge.out(0));
        fullFor(forge, "stop, END", () -> forge.stop(-1));
        fullFor(forge, "stop, TRAP", () -> forge.stop(0));
        checks.same("it is still there", forge.place(47), 48);
        forge.clear();
        checks.same("after clear there is room", forge.stop(-1), 0);
    }

    private void fullFor(ThumbForge forge, String what, Runnable call) {
        checks.refused(what + " in a full program", forge, Checks.STATE, call);
    }

    private void changesTakeTheImageAway() {
        takesAway("constant", forge -> forge.constant(0, 0));
        takesAway("compute", forge -> forge.compute(0, 0, 0, 0));
        takesAway("load", forge -> forge.load(0, 0));
        takesAway("store", forge -> forge.store(0, 0));
        takesAway("jump", forge -> forge.jump(0));
        takesAway("branch", forge -> forge.branch(0, 0, 0, 0));
        takesAway("out", forge -> forge.out(0));
        takesAway("stop, END", forge -> forge.stop(-1));
        takesAway("stop, TRAP", forge -> forge.stop(0));
        takesAway("clear", ThumbForge::clear);
    }

    private interface Change {
        void make(ThumbForge forge);
    }

    private void takesAway(String what, Change change) {
        ThumbForge forge = running();
        checks.holds("it had put out", forge.outputs() == 2 && forge.at() == 2);
        change.make(forge);
        checks.sameText("after " + what, Checks.seen(forge),
            "state 0 at -1 outputs 0; halfwords []; places []; memory [0, 0, 0, 33, 0, 0, 0, 0]; variables none; put out []");
        checks.refused("start() after " + what, forge, Checks.STATE, forge::start);
        checks.refused("variable(0) after " + what, forge, Checks.STATE, () -> forge.variable(0));
    }

    private void clearEmpties() {
        ThumbForge forge = running();
        forge.clear();
        checks.refused("forge() after clear", forge, Checks.STATE, forge::forge);
        checks.same("numbers begin again", forge.out(4), 0);
        checks.same("and go on", forge.stop(9), 1);
        checks.same("the new program is forged", forge.forge(), 6);
        checks.same("its trap is the new one", forge.halfword(3), 56832 + 9);
        forge.clear();
        forge.clear();
        checks.same("clear of nothing is fine", forge.stop(-1), 0);
    }
}
