import java.util.Arrays;

/** Promises 1 to 10: a new object, all that appends, and clear. Above each test stand the words that it holds. */
public final class AppendTest {
    private static final int[] NO_VARIABLES = {-1, 8, Forges.LEAST, Forges.MOST};
    private static final int[] NO_TARGETS = {-1, 48, Forges.LEAST, Forges.MOST};
    private static final String NOTHING =
        "state 0 at -1 outputs 0; halfwords []; places []; memory [0, 0, 0, 0, 0, 0, 0, 0]; variables none; put out []";

    private final Checks checks = new Checks();

    public static void main(String[] args) {
        AppendTest test = new AppendTest();
        test.newObject();
        test.objectsShareNothing();
        test.numbersFrom0();
        test.variables();
        test.operations();
        test.targets();
        test.relations();
        test.stops();
        test.anyConstant();
        test.upTo48();
        test.fullProgram();
        test.wrongArgumentInAFullProgram();
        test.theLastInstructionIsThere();
        test.changesTakeTheImageAway();
        test.clearEmpties();
        test.clearOfNothing();
        test.clearOfAFullProgram();
        test.checks.finish();
    }

    // Promise 1: "The program is empty; memory is 0."
    private void newObject() {
        checks.sameText("a new object", Look.seen(new ThumbForge()), NOTHING);
        checks.refused("forge() of nothing", Checks.STATE, Forges::empty, ThumbForge::forge);
        checks.same("the first number", new ThumbForge().stop(-1), 0);
    }

    private void objectsShareNothing() {
        ThumbForge one = new ThumbForge();
        ThumbForge other = Forges.running();
        checks.sameText("an object made before", Look.seen(one), NOTHING);
        checks.sameText("an object made after", Look.seen(new ThumbForge()), NOTHING);
        one.stop(7);
        one.poke(0, 5);
        checks.sameText("the other is as it was", Look.seen(other), Look.seen(Forges.running()));
    }

    // Terms: "INSTRUCTIONS, numbered 0, 1, .."; Promise 2: "Appends a CONSTANT: its number."
    private void numbersFrom0() {
        ThumbForge forge = new ThumbForge();
        checks.same("constant", forge.constant(7, 5), 0);
        checks.same("compute", forge.compute(7, 7, 7, 7), 1);
        checks.same("load", forge.load(7, 7), 2);
        checks.same("store", forge.store(7, 7), 3);
        checks.same("jump", forge.jump(47), 4);
        checks.same("branch", forge.branch(13, 7, 7, 47), 5);
        checks.same("out", forge.out(7), 6);
        checks.same("stop, END", forge.stop(-1), 7);
        checks.same("stop, TRAP", forge.stop(255), 8);
    }

    // Promise 2: "IllegalArgumentException when an argument that names a variable does not"
    private void variables() {
        for (int edge : new int[] {0, 7}) {
            taken("constant d " + edge, f -> f.constant(edge, 0));
            taken("compute d " + edge, f -> f.compute(0, edge, 1, 1));
            taken("compute a " + edge, f -> f.compute(0, 1, edge, 1));
            taken("compute b " + edge, f -> f.compute(0, 1, 1, edge));
            taken("load d " + edge, f -> f.load(edge, 1));
            taken("load a " + edge, f -> f.load(1, edge));
            taken("store a " + edge, f -> f.store(edge, 1));
            taken("store b " + edge, f -> f.store(1, edge));
            taken("branch a " + edge, f -> f.branch(0, edge, 1, 0));
            taken("branch b " + edge, f -> f.branch(0, 1, edge, 0));
            taken("out " + edge, f -> f.out(edge));
        }
        for (int bad : NO_VARIABLES) {
            wrong("constant d " + bad, f -> f.constant(bad, 0));
            wrong("compute d " + bad, f -> f.compute(0, bad, 1, 1));
            wrong("compute a " + bad, f -> f.compute(0, 1, bad, 1));
            wrong("compute b " + bad, f -> f.compute(0, 1, 1, bad));
            wrong("load d " + bad, f -> f.load(bad, 1));
            wrong("load a " + bad, f -> f.load(1, bad));
            wrong("store a " + bad, f -> f.store(bad, 1));
            wrong("store b " + bad, f -> f.store(1, bad));
            wrong("branch a " + bad, f -> f.branch(0, bad, 1, 0));
            wrong("branch b " + bad, f -> f.branch(0, 1, bad, 0));
            wrong("out " + bad, f -> f.out(bad));
        }
    }

    // Promise 3: "IllegalArgumentException also when op is not 0 .. 7."
    private void operations() {
        for (int op = 0; op <= 7; op++) {
            int good = op;
            taken("op " + op, f -> f.compute(good, 0, 0, 0));
        }
        for (int bad : new int[] {-1, 8, Forges.LEAST, Forges.MOST}) {
            wrong("op " + bad, f -> f.compute(bad, 0, 0, 0));
        }
    }

    // Promise 6: "IllegalArgumentException when t is not 0 .. 47."; Promise 7: "or t is not 0 .. 47."
    private void targets() {
        for (int edge : new int[] {0, 47}) {
            taken("jump " + edge, f -> f.jump(edge));
            taken("branch to " + edge, f -> f.branch(0, 0, 0, edge));
        }
        for (int bad : NO_TARGETS) {
            wrong("jump " + bad, f -> f.jump(bad));
            wrong("branch to " + bad, f -> f.branch(0, 0, 0, bad));
        }
    }

    // Promise 7: "IllegalArgumentException also when c is none of those relations"
    private void relations() {
        for (int good : Forges.RELATIONS) {
            taken("relation " + good, f -> f.branch(good, 0, 0, 0));
        }
        for (int bad : new int[] {-1, 4, 5, 6, 7, 14, 15, 16, Forges.LEAST, Forges.MOST}) {
            wrong("relation " + bad, f -> f.branch(bad, 0, 0, 0));
        }
    }

    // Promise 9: "Appends an END (k = -1) or a TRAP k. IllegalArgumentException when k is not -1 .. 255."
    private void stops() {
        for (int good : new int[] {-1, 0, 255}) {
            taken("stop " + good, f -> f.stop(good));
        }
        for (int bad : new int[] {-2, 256, Forges.LEAST, Forges.MOST}) {
            wrong("stop " + bad, f -> f.stop(bad));
        }
        checks.same("-1 is an END", first(f -> f.stop(-1)), 57089);
        checks.same("0 is a TRAP", first(f -> f.stop(0)), 56832);
        checks.same("255 is a TRAP", first(f -> f.stop(255)), 56832 + 255);
    }

    private static int first(Forges.Call write) {
        ThumbForge forge = new ThumbForge();
        write.on(forge);
        forge.forge();
        return forge.halfword(forge.place(0));
    }

    // Terms: "all ints": no k is refused.
    private void anyConstant() {
        for (int k : new int[] {Forges.LEAST, -257, -1, 0, 255, 256, Forges.MOST}) {
            taken("constant " + k, f -> f.constant(0, k));
        }
    }

    /** It is appended behind the last one: in an empty program, in the midst, and as the 48th. */
    private void taken(String what, Forges.Call call) {
        for (int before : new int[] {0, 7, 47}) {
            ThumbForge forge = Forges.ofStops(before);
            call.on(forge);
            String when = what + " behind " + before;
            if (before < 47) {
                checks.same(when + " has a number", forge.stop(-1), before + 1);
            } else {
                checks.throwsOn(when + " is the 48th", Checks.STATE, forge, f -> f.stop(-1));
            }
        }
    }

    private void wrong(String what, Forges.Call call) {
        checks.refused(what, Checks.ARGUMENT, Forges.WITH_ROOM, call);
    }

    // Terms: "A PROGRAM has up to 48 INSTRUCTIONS"
    private void upTo48() {
        ThumbForge forge = new ThumbForge();
        for (int i = 0; i < 48; i++) {
            checks.same("instruction " + i, forge.stop(i), i);
        }
        checks.same("48 can be forged", forge.forge(), 1 + 48 + 1 + 2);
        for (int i = 0; i < 48; i++) {
            checks.same("the place of " + i, forge.place(i), 1 + i);
            checks.same("the halfword of " + i, forge.halfword(1 + i), 56832 + i);
        }
    }

    // Promise 2: "IllegalStateException when there are 48. (So for all that append ..)"
    private void fullProgram() {
        full("constant", f -> f.constant(0, 0));
        full("compute", f -> f.compute(0, 0, 0, 0));
        full("load", f -> f.load(0, 0));
        full("store", f -> f.store(0, 0));
        full("jump", f -> f.jump(0));
        full("branch", f -> f.branch(0, 0, 0, 0));
        full("out", f -> f.out(0));
        full("stop, END", f -> f.stop(-1));
        full("stop, TRAP", f -> f.stop(0));
    }

    private void full(String what, Forges.Call call) {
        ThumbForge forge = Forges.ofStops(47);
        call.on(forge);
        checks.throwsOn(what + " as the 49th", Checks.STATE, forge, call);
        checks.refused(what, Checks.STATE, Forges.FULL, call);
    }

    /** The document tells no order for these; what it names first comes first. */
    private void wrongArgumentInAFullProgram() {
        fullAndWrong("constant(8, 0)", f -> f.constant(8, 0));
        fullAndWrong("compute(8, 0, 0, 0)", f -> f.compute(8, 0, 0, 0));
        fullAndWrong("compute(0, 0, 0, -1)", f -> f.compute(0, 0, 0, -1));
        fullAndWrong("load(0, 8)", f -> f.load(0, 8));
        fullAndWrong("store(-1, 0)", f -> f.store(-1, 0));
        fullAndWrong("jump(48)", f -> f.jump(48));
        fullAndWrong("branch(4, 0, 0, 0)", f -> f.branch(4, 0, 0, 0));
        fullAndWrong("out(8)", f -> f.out(8));
        fullAndWrong("stop(256)", f -> f.stop(256));
    }

    private void fullAndWrong(String what, Forges.Call call) {
        checks.refused(what, Checks.ARGUMENT, Forges.FULL, call);
    }

    /** Instruction 47 has all that the others have: it is forged, gone to and done. */
    private void theLastInstructionIsThere() {
        ThumbForge forge = new ThumbForge();
        forge.jump(47);
        for (int i = 1; i < 47; i++) {
            forge.stop(1);
        }
        checks.same("the 48th", forge.stop(2), 47);
        Forges.run(forge, 2);
        checks.same("its TRAP", forge.state(), 3 + 4 * 2);
        checks.same("its number", forge.at(), 47);
    }

    // Terms: "calls that change the program (also clear()) take the image away, and the machine is off."
    private void changesTakeTheImageAway() {
        takesAway("constant", f -> f.constant(0, 0));
        takesAway("compute", f -> f.compute(0, 0, 0, 0));
        takesAway("load", f -> f.load(0, 0));
        takesAway("store", f -> f.store(0, 0));
        takesAway("jump", f -> f.jump(0));
        takesAway("branch", f -> f.branch(0, 0, 0, 0));
        takesAway("out", f -> f.out(0));
        takesAway("stop, END", f -> f.stop(-1));
        takesAway("stop, TRAP", f -> f.stop(0));
        takesAway("clear", ThumbForge::clear);
    }

    private void takesAway(String what, Forges.Call change) {
        for (Forges.State state : Forges.WITH_IMAGE) {
            String when = what + ", " + state.name();
            ThumbForge forge = state.maker().make();
            checks.same(when + ", had an image", Look.places(forge).length, 8);
            String memory = Arrays.toString(Look.memory(forge));
            change.on(forge);
            checks.sameText(when, Look.seen(forge),
                "state 0 at -1 outputs 0; halfwords []; places []; memory " + memory + "; variables none; put out []");
            Forges.Maker changed = () -> changed(state.maker().make(), change);
            checks.refused("start() after " + when, Checks.STATE, changed, ThumbForge::start);
            checks.refused("run(1) after " + when, Checks.STATE, changed, f -> f.run(1));
            checks.refused("variable(0) after " + when, Checks.STATE, changed, f -> f.variable(0));
            checks.refused("halfword(0) after " + when, Checks.NONE, changed, f -> f.halfword(0));
            checks.refused("place(0) after " + when, Checks.NONE, changed, f -> f.place(0));
            checks.refused("output(17) after " + when, Checks.NONE, changed, f -> f.output(17));
        }
    }

    private static ThumbForge changed(ThumbForge forge, Forges.Call change) {
        change.on(forge);
        return forge;
    }

    // Promise 10: "The program is empty."
    private void clearEmpties() {
        for (Forges.State state : Forges.WITH_ROOM) {
            Forges.Maker maker = () -> changed(state.maker().make(), ThumbForge::clear);
            checks.refused("forge() after clear, " + state.name(), Checks.STATE, maker, ThumbForge::forge);
            ThumbForge forge = maker.make();
            checks.same("numbers begin again", forge.out(4), 0);
            checks.same("and go on", forge.stop(9), 1);
            checks.same("the new program is forged", forge.forge(), 6);
            checks.sameText("its image", Arrays.toString(Look.image(forge)), "[19201, 38912, 57088, 56841, 0, 8192]");
        }
    }

    private void clearOfNothing() {
        ThumbForge forge = new ThumbForge();
        forge.poke(2, 22);
        forge.clear();
        forge.clear();
        checks.sameText("cleared twice", Look.seen(forge), NOTHING.replace("[0, 0, 0,", "[0, 0, 22,"));
        checks.same("the first number", forge.stop(-1), 0);
    }

    private void clearOfAFullProgram() {
        ThumbForge forge = Forges.ofStops(48);
        forge.clear();
        for (int i = 0; i < 48; i++) {
            checks.same("again instruction " + i, forge.stop(-1), i);
        }
        checks.throwsOn("again the 49th", Checks.STATE, forge, f -> f.stop(-1));
    }
}
