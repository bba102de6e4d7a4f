import java.util.Arrays;

/** Promises 11 to 13: what can be forged, each halfword, the places. Above each test stand the words that it holds. */
public final class ForgeTest {
    private final Checks checks = new Checks();

    public static void main(String[] args) {
        ForgeTest test = new ForgeTest();
        test.emptyProgram();
        test.lastInstruction();
        test.targetsThatAreNotThere();
        test.targetsInALongProgram();
        test.registersAndSlots();
        test.addAndSubtract();
        test.otherComputes();
        test.loadsAndStores();
        test.jumps();
        test.branches();
        test.outsAndStops();
        test.longestImages();
        test.halfwordsHaveEnds();
        test.placesHaveEnds();
        test.noImage();
        test.forgeAgain();
        test.forgeTurnsOff();
        test.shorterImage();
        test.checks.finish();
    }

    // Promise 11: "IllegalStateException when the program is empty"
    private void emptyProgram() {
        checks.refused("forge() of a new object", Checks.STATE, Forges::empty, ThumbForge::forge);
        checks.refused("forge() after clear()", Checks.STATE, Forges::cleared, ThumbForge::forge);
        checks.same("one instruction is enough", Forges.ofStops(1).forge(), 4);
    }

    // Promise 11: "or its last instruction is no JUMP, END or TRAP"
    private void lastInstruction() {
        can("JUMP last", f -> f.jump(0));
        can("END last", f -> f.stop(-1));
        can("TRAP 0 last", f -> f.stop(0));
        can("TRAP 255 last", f -> f.stop(255));
        cannot("CONSTANT last", f -> f.constant(0, 1));
        cannot("COMPUTE last", f -> f.compute(0, 0, 0, 0));
        cannot("LOAD last", f -> f.load(0, 0));
        cannot("STORE last", f -> f.store(0, 0));
        cannot("BRANCH last", f -> f.branch(0, 0, 0, 0));
        cannot("OUT last", f -> f.out(0));
        cannot("OUT behind END", f -> { f.stop(-1); f.out(0); });
        can("END behind OUT", f -> { f.out(0); f.stop(-1); });
        checks.refused("forge() of a full one", Checks.STATE, Forges::fullNotWhole, ThumbForge::forge);
    }

    // Promise 11: "or some t is the number of no instruction"
    private void targetsThatAreNotThere() {
        can("JUMP to itself", f -> f.jump(0));
        can("JUMP to the last", f -> { f.jump(1); f.stop(-1); });
        can("BRANCH to the last", f -> { f.branch(0, 0, 0, 1); f.stop(0); });
        cannot("JUMP behind the last", f -> f.jump(1));
        cannot("JUMP behind the last, not last", f -> { f.jump(2); f.stop(-1); });
        cannot("BRANCH behind the last", f -> { f.branch(0, 0, 0, 2); f.stop(-1); });
        cannot("BRANCH to 47", f -> { f.branch(0, 0, 0, 47); f.stop(-1); });
        cannot("one that is never done", f -> { f.stop(-1); f.jump(3); f.stop(-1); });
        cannot("the second of two", f -> { f.branch(0, 0, 0, 0); f.branch(0, 0, 0, 3); f.stop(-1); });
        cannot("the first of two", f -> { f.branch(0, 0, 0, 3); f.branch(0, 0, 0, 0); f.stop(-1); });
        can("numbers that are no t", f -> { f.constant(0, 47); f.stop(47); });

        ThumbForge mended = new ThumbForge();
        mended.jump(1);
        checks.throwsOn("forge() too early", Checks.STATE, mended, ThumbForge::forge);
        mended.stop(-1);
        checks.same("forge() with the target there", mended.forge(), 6);
    }

    private void targetsInALongProgram() {
        for (int count = 46; count <= 48; count++) {
            for (int t = count - 1; t <= 47; t++) {
                int size = count;
                int target = t;
                Forges.Call jump = f -> { f.jump(target); stops(f, size - 1); };
                Forges.Call branch = f -> { stops(f, size - 2); f.branch(0, 0, 0, target); f.stop(-1); };
                if (t < count) {
                    can("JUMP to " + t + " of " + count, jump);
                    can("BRANCH to " + t + " of " + count, branch);
                } else {
                    cannot("JUMP to " + t + " of " + count, jump);
                    cannot("BRANCH to " + t + " of " + count, branch);
                }
            }
        }
    }

    private static void stops(ThumbForge forge, int count) {
        for (int i = 0; i < count; i++) {
            forge.stop(i);
        }
    }

    private static ThumbForge written(Forges.Call write) {
        ThumbForge forge = new ThumbForge();
        write.on(forge);
        return forge;
    }

    private void cannot(String what, Forges.Call write) {
        checks.refused("forge() with " + what, Checks.STATE, () -> written(write), ThumbForge::forge);
    }

    private void can(String what, Forges.Call write) {
        ThumbForge forge = written(write);
        int length = forge.forge();
        checks.same(what + ", how many halfwords", length, Look.image(forge).length);
        forge.start();
        checks.same(what + ", can be started", forge.state(), ThumbForge.RUNS);
    }

    /** The halfwords between the first one and the END that closes the program. */
    private void code(String what, Forges.Call write, int... due) {
        ThumbForge forge = new ThumbForge();
        write.on(forge);
        int end = forge.stop(-1);
        forge.forge();
        int[] got = Arrays.copyOfRange(Look.image(forge), 1, forge.place(end));
        checks.sameText(what, Arrays.toString(got), Arrays.toString(due));
        checks.same(what + ", the END", forge.halfword(forge.place(end)), 57089);
    }

    // Terms: "Variables 0 .. 3 have the REGISTERS 4 .. 7; variables 4 .. 7 have the SLOTS 0 .. 3."
    private void registersAndSlots() {
        for (int v = 0; v < 8; v++) {
            int a = v;
            boolean own = v < 4;
            int slot = v - 4;
            int register = own ? 4 + v : 0;
            int second = own ? 4 + v : 1;
            code("to be kept: " + v, f -> f.constant(a, 5), own ? row(8192 + 256 * register + 5) : row(8197, 36864 + slot));
            code("put out: " + v, f -> f.out(a), own ? row(8 * register, 57088) : row(38912 + slot, 57088));
            code("first: " + v, f -> f.compute(0, 0, a, 0),
                own ? row(6144 + 256 + 8 * register + 4) : row(38912 + slot, 6144 + 256 + 4));
            code("second: " + v, f -> f.compute(1, 0, 0, a),
                own ? row(6656 + 64 * second + 32 + 4) : row(38912 + 256 + slot, 6656 + 64 + 32 + 4));
        }
    }

    private static int[] row(int... all) {
        return all;
    }

    private void addAndSubtract() {
        code("+ in registers", f -> f.compute(0, 2, 0, 1), 6144 + 64 * 5 + 8 * 4 + 6);
        code("- in registers", f -> f.compute(1, 3, 2, 0), 6656 + 64 * 4 + 8 * 6 + 7);
        code("+ of slots", f -> f.compute(0, 7, 4, 5), 38912, 38912 + 256 + 1, 6144 + 64, 36867);
        code("- of slots", f -> f.compute(1, 0, 7, 6), 38912 + 3, 38912 + 256 + 2, 6656 + 64 + 4);
        code("+, first in a slot", f -> f.compute(0, 0, 5, 3), 38912 + 1, 6144 + 64 * 7 + 4);
        code("-, second in a slot", f -> f.compute(1, 4, 3, 5), 38912 + 256 + 1, 6656 + 64 + 56, 36864);
        code("+, one slot", f -> f.compute(0, 4, 4, 4), 38912, 38912 + 256, 6144 + 64, 36864);
    }

    private void otherComputes() {
        int[] codes = {17216, 16384, 17152, 16448, 16512, 16576};
        for (int op = 2; op < 8; op++) {
            int n = op;
            int due = codes[op - 2];
            code("op " + n + " in registers", f -> f.compute(n, 2, 3, 1), 56, due + 40, 6);
            code("op " + n + " in slots", f -> f.compute(n, 6, 5, 7), 38913, 38912 + 259, due + 8, 36866);
            code("op " + n + ", second in a slot", f -> f.compute(n, 3, 0, 4), 32, 38912 + 256, due + 8, 7);
            code("op " + n + ", first in a slot", f -> f.compute(n, 7, 4, 0), 38912, due + 32, 36867);
            code("op " + n + ", one register", f -> f.compute(n, 0, 0, 0), 32, due + 32, 4);
        }
    }

    private void loadsAndStores() {
        code("load in registers", f -> f.load(1, 3), 8455, 16385 + 56, 137, 22616 + 5);
        code("load in slots", f -> f.load(5, 7), 38912 + 3, 8455, 16385, 137, 22616, 36865);
        code("load, d in a slot", f -> f.load(7, 0), 8455, 16385 + 32, 137, 22616, 36867);
        code("load, a in a slot", f -> f.load(0, 7), 38915, 8455, 16385, 137, 22616 + 4);
        code("store in registers", f -> f.store(0, 2), 8455, 16385 + 32, 137, 20568 + 6);
        code("store in slots", f -> f.store(4, 7), 38912, 8455, 16385, 137, 38912 + 3, 20568);
        code("store, a in a slot", f -> f.store(6, 1), 38914, 8455, 16385, 137, 20568 + 5);
        code("store, b in a slot", f -> f.store(1, 6), 8455, 16385 + 40, 137, 38914, 20568);
    }

    // "57344 + (D modulo 2048)"; "D is the place of t less that of the halfword itself, less 2"
    private void jumps() {
        code("jump to itself", f -> f.jump(0), 57344 + 2046);
        code("jump to the next", f -> f.jump(1), 57344 + 2047);
        code("jump over one halfword", f -> { f.jump(2); f.stop(0); }, 57344, 56832);
        code("jump over two", f -> { f.jump(2); f.out(0); }, 57344 + 1, 32, 57088);
        code("jump back", f -> { f.out(0); f.jump(0); }, 32, 57088, 57344 + 2044);
    }

    private void branches() {
        for (int relation : Forges.RELATIONS) {
            code("branch " + relation, f -> f.branch(relation, 0, 3, 1), 17024 + 56 + 4, 53248 + 256 * relation + 255);
        }
        code("branch to itself", f -> f.branch(3, 4, 7, 0), 38912, 38912 + 259, 17024 + 8, 53248 + 768 + 251);
        code("branch, a in a slot", f -> f.branch(0, 6, 1, 0), 38914, 17024 + 40, 53248 + 252);
        code("branch, b in a slot", f -> f.branch(1, 1, 6, 1), 38912 + 258, 17024 + 8 + 5, 53504 + 255);
        code("branch over one halfword", f -> { f.branch(0, 0, 1, 2); f.stop(0); }, 17024 + 40 + 4, 53248, 56832);
    }

    private void outsAndStops() {
        code("out of a register", f -> f.out(3), 56, 57088);
        code("out of a slot", f -> f.out(6), 38914, 57088);
        code("ENDs and TRAPs", f -> { f.stop(-1); f.stop(0); f.stop(255); }, 57089, 56832, 57087);
    }

    private void longestImages() {
        ThumbForge stores = new ThumbForge();
        for (int i = 0; i < 47; i++) {
            stores.store(4, 5);
        }
        stores.stop(-1);
        checks.same("47 long STOREs", stores.forge(), 1 + 47 * 6 + 1 + 2);
        checks.same("the first literal", stores.halfword(0), 19200 + 141);
        checks.same("the last STORE", stores.place(46), 1 + 46 * 6);
        checks.same("the END", stores.place(47), 1 + 47 * 6);
        checks.same("the last halfword", stores.halfword(285), 8192);

        ThumbForge loads = new ThumbForge();
        loads.jump(47);
        for (int i = 0; i < 46; i++) {
            loads.load(4, 5);
        }
        loads.jump(0);
        checks.same("jumps over all", loads.forge(), 1 + 1 + 46 * 6 + 1 + 1 + 2);
        checks.same("the long way on", loads.halfword(1), 57344 + 275);
        checks.same("the long way back", loads.halfword(278), 57344 + 2048 - 279);
    }

    // Promise 12: "Halfword i of the image. NoSuchElementException when there is none."
    private void halfwordsHaveEnds() {
        ThumbForge forge = Forges.forged();
        checks.same("halfword(0)", forge.halfword(0), 19200 + 8);
        checks.same("halfword(21), the last", forge.halfword(21), 1);
        for (Forges.State state : Forges.WITH_IMAGE) {
            for (int bad : new int[] {-1, 22, 23, 387, 388, Forges.LEAST, Forges.MOST}) {
                checks.refused("halfword(" + bad + "), " + state.name(), Checks.NONE, state.maker(), f -> f.halfword(bad));
            }
        }
        for (int i = 0; i < 22; i++) {
            int place = i;
            checks.changesNothing("halfword(" + i + ")", Forges.WITH_IMAGE, f -> f.halfword(place));
        }
    }

    // Promise 13: "The place (in halfwords) of the first halfword of instruction i in the image. .. no such instruction."
    private void placesHaveEnds() {
        ThumbForge forge = Forges.forged();
        checks.sameText("places", Arrays.toString(Look.places(forge)), "[1, 2, 4, 6, 7, 9, 13, 16]");
        for (Forges.State state : Forges.WITH_IMAGE) {
            for (int bad : new int[] {-1, 8, 9, 47, 48, Forges.LEAST, Forges.MOST}) {
                checks.refused("place(" + bad + "), " + state.name(), Checks.NONE, state.maker(), f -> f.place(bad));
            }
        }
        checks.changesNothing("place(0)", Forges.WITH_IMAGE, f -> f.place(0));
        checks.changesNothing("place(7)", Forges.WITH_IMAGE, f -> f.place(7));
        ThumbForge full = Forges.ofStops(48);
        full.forge();
        checks.same("place(47)", full.place(47), 48);
        checks.throwsOn("place(48)", Checks.NONE, full, f -> f.place(48));
    }

    // Promise 13: "NoSuchElementException when there is no image"; so too for Promise 12.
    private void noImage() {
        for (int i : new int[] {-1, 0, 1, 47, Forges.LEAST, Forges.MOST}) {
            checks.refused("halfword(" + i + ") without an image", Checks.NONE, Forges.WITHOUT_IMAGE, f -> f.halfword(i));
            checks.refused("place(" + i + ") without an image", Checks.NONE, Forges.WITHOUT_IMAGE, f -> f.place(i));
        }
    }

    // Promise 11: "Makes the image: how many halfwords it has"
    private void forgeAgain() {
        for (Forges.State state : Forges.WITH_IMAGE) {
            ThumbForge forge = state.maker().make();
            String before = Arrays.toString(Look.image(forge));
            checks.same("forged again, " + state.name(), forge.forge(), 22);
            checks.sameText("the same image", Arrays.toString(Look.image(forge)), before);
        }
    }

    // Promise 11: "the machine is off"
    private void forgeTurnsOff() {
        for (Forges.State state : Forges.WITH_IMAGE) {
            ThumbForge forge = state.maker().make();
            int[] memory = Look.memory(forge);
            int[] image = Look.image(forge);
            forge.forge();
            checks.sameText("forged again, " + state.name(), Look.seen(forge), "state 0 at -1 outputs 0; halfwords " + Arrays.toString(image)
                + "; places [1, 2, 4, 6, 7, 9, 13, 16]; memory " + Arrays.toString(memory) + "; variables none; put out []");
            forge.start();
            checks.same("it can be started again", forge.state(), ThumbForge.RUNS);
        }
    }

    private void shorterImage() {
        ThumbForge forge = new ThumbForge();
        forge.constant(0, 123456789);
        forge.constant(0, 987654321);
        forge.stop(-1);
        checks.same("a longer image", forge.forge(), 10);
        forge.clear();
        forge.stop(-1);
        checks.same("a shorter image", forge.forge(), 4);
        checks.sameText("has nothing of the old one", Arrays.toString(Look.image(forge)), "[19200, 57089, 0, 8192]");
        checks.sameText("nor its places", Arrays.toString(Look.places(forge)), "[1]");
    }
}
