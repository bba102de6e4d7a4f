import java.util.Arrays;

/** Promises 11 to 13: what can be forged, each halfword, the pool, the places. */
public final class ForgeTest {
    private final Checks checks = new Checks();

    public static void main(String[] args) {
        ForgeTest test = new ForgeTest();
        test.whatCanBeForged();
        test.smallestImage();
        test.numbersMadeShort();
        test.numbersInSlots();
        test.literals();
        test.addAndSubtract();
        test.otherComputes();
        test.loadsAndStores();
        test.jumpsAndBranches();
        test.outsAndStops();
        test.pool();
        test.biggestImages();
        test.rowsHaveEnds();
        test.forgeAgain();
        test.checks.finish();
    }

    private interface Write {
        void into(ThumbForge forge);
    }

    /** The halfwords between the first one and the END that closes the program. */
    private void code(String what, Write write, int... due) {
        ThumbForge forge = new ThumbForge();
        write.into(forge);
        int end = forge.stop(-1);
        forge.forge();
        int[] got = Arrays.copyOfRange(Checks.image(forge), 1, forge.place(end));
        checks.sameText(what, Arrays.toString(got), Arrays.toString(due));
        checks.same(what + ", the END", forge.halfword(forge.place(end)), 57089);
    }

    private void whole(String what, Write write, int... due) {
        ThumbForge forge = new ThumbForge();
        write.into(forge);
        checks.same(what + ", its length", forge.forge(), due.length);
        checks.sameText(what, Arrays.toString(Checks.image(forge)), Arrays.toString(due));
    }

    private void whatCanBeForged() {
        cannot("nothing", f -> { });
        cannot("CONSTANT last", f -> f.constant(0, 1));
        cannot("COMPUTE last", f -> f.compute(0, 0, 0, 0));
        cannot("LOAD last", f -> f.load(0, 0));
        cannot("STORE last", f -> f.store(0, 0));
        cannot("BRANCH last", f -> f.branch(0, 0, 0, 0));
        cannot("OUT last", f -> f.out(0));
        cannot("END, then OUT", f -> { f.stop(-1); f.out(0); });
        cannot("JUMP to none", f -> f.jump(1));
        cannot("JUMP to none, not last", f -> { f.jump(2); f.stop(-1); });
        cannot("BRANCH to none", f -> { f.branch(0, 0, 0, 2); f.stop(-1); });
        cannot("BRANCH to 47", f -> { f.branch(0, 0, 0, 47); f.stop(-1); });
        can("JUMP to itself", f -> f.jump(0));
        can("JUMP to the last", f -> { f.jump(1); f.stop(-1); });
        can("BRANCH to the last", f -> { f.branch(0, 0, 0, 1); f.stop(0); });
        can("END", f -> f.stop(-1));
        can("TRAP", f -> f.stop(0));

        ThumbForge mended = new ThumbForge();
        mended.jump(1);
        checks.refused("forge() too early", mended, Checks.STATE, mended::forge);
        mended.stop(-1);
        checks.same("forge() with the target there", mended.forge(), 6);
    }

    private void cannot(String what, Write write) {
        ThumbForge forge = new ThumbForge();
        write.into(forge);
        checks.refused(what + ": forge()", forge, Checks.STATE, forge::forge);
        checks.refused(what + ": halfword(0)", forge, Checks.NONE, () -> forge.halfword(0));
        checks.refused(what + ": place(0)", forge, Checks.NONE, () -> forge.place(0));
    }

    private void can(String what, Write write) {
        ThumbForge forge = new ThumbForge();
        write.into(forge);
        int length = forge.forge();
        checks.holds(what + " can be forged", length == Checks.image(forge).length && length >= 4);
    }

    private void smallestImage() {
        whole("an END", f -> f.stop(-1), 19200, 57089, 0, 8192);
        whole("two TRAPs", f -> { f.stop(0); f.stop(255); }, 19201, 56832, 57087, 0, 0, 8192);
    }

    private void numbersMadeShort() {
        code("0", f -> f.constant(0, 0), 9216);
        code("255", f -> f.constant(3, 255), 8192 + 1792 + 255);
        code("-1", f -> f.constant(1, -1), 8192 + 1280, 17344 + 45);
        code("-256", f -> f.constant(2, -256), 8192 + 1536 + 255, 17344 + 54);
        code("256", f -> f.constant(0, 256), 9216 + 128, 64 + 36);
        code("258", f -> f.constant(0, 258), 9216 + 129, 64 + 36);
        code("510", f -> f.constant(0, 510), 9216 + 255, 64 + 36);
        code("512", f -> f.constant(0, 512), 9216 + 128, 128 + 36);
        code("1020", f -> f.constant(0, 1020), 9216 + 255, 128 + 36);
        code("65536", f -> f.constant(0, 65536), 9216 + 128, 64 * 9 + 36);
        code("the memory's address", f -> f.constant(0, 536870912), 9216 + 128, 64 * 22 + 36);
        code("1 << 30", f -> f.constant(0, 1 << 30), 9216 + 128, 64 * 23 + 36);
        code("the least int", f -> f.constant(0, Integer.MIN_VALUE), 9216 + 128, 64 * 24 + 36);
        code("-16777216", f -> f.constant(0, 0xff000000), 9216 + 255, 64 * 24 + 36);
        code("0x81000000", f -> f.constant(1, 0x81000000), 9472 + 129, 64 * 24 + 45);
        code("0x7f800000", f -> f.constant(1, 0x7f800000), 9472 + 255, 64 * 23 + 45);
    }

    private void numbersInSlots() {
        code("slot 0", f -> f.constant(4, 9), 8192 + 9, 36864);
        code("slot 3", f -> f.constant(7, 255), 8192 + 255, 36867);
        code("below 0", f -> f.constant(5, -2), 8192 + 1, 17344, 36865);
        code("shifted", f -> f.constant(6, 0x3fc), 8192 + 255, 128, 36866);
        whole("literal", f -> { f.constant(6, 257); f.stop(-1); },
            19201, 18433 + 1, 36866, 57089, 0, 8192, 257, 0);
    }

    private void literals() {
        for (int number : new int[] {257, 511, 513, -257, -258, 0x01010101, 0x80000001, 0x80800000 + 1, Integer.MAX_VALUE, 0xfe800000, 0xff800000}) {
            whole("literal " + number, f -> { f.constant(3, number); f.stop(-1); },
                19201, 18432 + 1792 + 2, 57089, 0, 0, 8192, number & 65535, number >>> 16);
        }
        // A halfword whose address is divisible by 4, and one whose address is not.
        whole("at an even place", f -> { f.constant(0, 1); f.constant(0, 1000000); f.stop(-1); },
            19201, 9217, 18432 + 1024 + 1, 57089, 0, 8192, 16960, 15);
        whole("at an odd place", f -> { f.constant(0, 1); f.constant(0, 1); f.constant(0, 1000000); f.stop(-1); },
            19202, 9217, 9217, 18432 + 1024 + 2, 57089, 0, 0, 8192, 16960, 15);
    }

    private void addAndSubtract() {
        code("+ in registers", f -> f.compute(0, 2, 0, 1), 6144 + 64 * 5 + 8 * 4 + 6);
        code("- in registers", f -> f.compute(1, 3, 2, 0), 6656 + 64 * 4 + 8 * 6 + 7);
        code("+ of slots", f -> f.compute(0, 7, 4, 5), 38912, 38912 + 256 + 1, 6144 + 64, 36867);
        code("- of slots", f -> f.compute(1, 0, 7, 6), 38912 + 3, 38912 + 256 + 2, 6656 + 64 + 4);
        code("+, first in a slot", f -> f.compute(0, 0, 5, 3), 38912 + 1, 6144 + 64 * 7 + 4);
        code("-, second in a slot", f -> f.compute(1, 4, 3, 5), 38912 + 256 + 1, 6656 + 64 + 56, 36864);
    }

    private void otherComputes() {
        int[] codes = {17216, 16384, 17152, 16448, 16512, 16576};
        for (int op = 2; op < 8; op++) {
            int n = op;
            int due = codes[op - 2];
            code("op " + n + " in registers", f -> f.compute(n, 2, 3, 1), 56, due + 40, 6);
            code("op " + n + " in slots", f -> f.compute(n, 6, 5, 7), 38913, 38912 + 259, due + 8, 36866);
            code("op " + n + ", second in a slot", f -> f.compute(n, 3, 0, 4), 32, 38912 + 256, due + 8, 7);
            code("op " + n + ", first in a slot", f -> f.compute(n, 7, 4, 0), 38912, due + 32, 36867);
        }
    }

    private void loadsAndStores() {
        code("load in registers", f -> f.load(1, 3), 8455, 16385 + 56, 137, 22616 + 5);
        code("load in slots", f -> f.load(5, 7), 38912 + 3, 8455, 16385, 137, 22616, 36865);
        code("store in registers", f -> f.store(0, 2), 8455, 16385 + 32, 137, 20568 + 6);
        code("store in slots", f -> f.store(4, 7), 38912, 8455, 16385, 137, 38912 + 3, 20568);
        code("store, a in a slot", f -> f.store(6, 1), 38914, 8455, 16385, 137, 20568 + 5);
        code("store, b in a slot", f -> f.store(1, 6), 8455, 16385 + 40, 137, 38914, 20568);
    }

    private void jumpsAndBranches() {
        code("jump to itself", f -> f.jump(0), 57344 + 2046);
        code("jump to the next", f -> f.jump(1), 57344 + 2047);
        code("jump over one", f -> { f.jump(2); f.out(0); }, 57344 + 1, 32, 57088);
        code("jump back", f -> { f.out(0); f.jump(0); }, 32, 57088, 57344 + 2044);
        for (int relation : new int[] {0, 1, 2, 3, 8, 9, 10, 11, 12, 13}) {
            code("branch " + relation, f -> f.branch(relation, 0, 3, 1), 17024 + 56 + 4, 53248 + 256 * relation + 255);
        }
        code("branch to itself", f -> f.branch(3, 4, 7, 0), 38912, 38912 + 259, 17024 + 8, 53248 + 768 + 251);
        code("branch, a in a slot", f -> f.branch(0, 6, 1, 0), 38914, 17024 + 40, 53248 + 252);
        code("branch, b in a slot", f -> f.branch(1, 1, 6, 1), 38912 + 258, 17024 + 8 + 5, 53504 + 255);
    }

    private void outsAndStops() {
        code("out of a register", f -> f.out(3), 56, 57088);
        code("out of a slot", f -> f.out(6), 38914, 57088);
        code("ENDs and TRAPs", f -> { f.stop(-1); f.stop(0); f.stop(255); }, 57089, 56832, 57087);
    }

    private void pool() {
        whole("each number once, as they first come", f -> {
            f.constant(0, 70001);
            f.constant(1, -70001);
            f.constant(4, 70001);
            f.constant(2, 536870913);
            f.constant(3, -70001);
            f.constant(5, 536870912);
            f.stop(7);
        }, 19200 + 5, 18432 + 1024 + 6, 18432 + 1280 + 6, 18432 + 5, 36864, 18432 + 1536 + 6,
            18432 + 1792 + 4, 8192 + 128, 64 * 22, 36865, 56839, 0,
            0, 8192, 4465, 1, 61071, 65534, 1, 8192);
    }

    private void biggestImages() {
        ThumbForge forge = new ThumbForge();
        for (int i = 0; i < 47; i++) {
            forge.store(4, 5);
        }
        forge.stop(-1);
        checks.same("47 long STOREs", forge.forge(), 1 + 47 * 6 + 1 + 2);
        checks.same("the first literal", forge.halfword(0), 19200 + 141);
        checks.same("the last STORE", forge.place(46), 1 + 46 * 6);
        checks.same("the END", forge.place(47), 1 + 47 * 6);

        forge.clear();
        for (int i = 0; i < 47; i++) {
            forge.constant(4 + i % 4, 100001 + i);
        }
        forge.stop(-1);
        checks.same("47 literals", forge.forge(), 1 + 47 * 2 + 1 + 2 * 48);
        for (int i = 0; i < 47; i++) {
            int place = forge.place(i);
            int base = (2 * place + 4) / 4 * 4;
            int literal = (base + 4 * (forge.halfword(place) & 255)) / 2;
            int number = forge.halfword(literal) + 65536 * forge.halfword(literal + 1);
            checks.same("literal " + i, number, 100001 + i);
            checks.same("its place", literal, 96 + 2 + 2 * i);
        }

        forge.clear();
        forge.jump(47);
        for (int i = 0; i < 46; i++) {
            forge.load(4, 5);
        }
        forge.jump(0);
        checks.same("jumps over all", forge.forge(), 1 + 1 + 46 * 6 + 1 + 1 + 2);
        checks.same("the long way on", forge.halfword(1), 57344 + 275);
        checks.same("the long way back", forge.halfword(278), 57344 + 2048 - 279);
    }

    private void rowsHaveEnds() {
        ThumbForge forge = new ThumbForge();
        forge.out(0);
        forge.stop(-1);
        noneOf(forge, "halfword", new int[] {-1, 0, 1}, forge::halfword);
        noneOf(forge, "place", new int[] {-1, 0, 1}, forge::place);
        checks.same("length", forge.forge(), 6);
        noneOf(forge, "halfword", new int[] {-1, 6, 7, 388, Integer.MIN_VALUE, Integer.MAX_VALUE}, forge::halfword);
        noneOf(forge, "place", new int[] {-1, 2, 3, 48, Integer.MIN_VALUE, Integer.MAX_VALUE}, forge::place);
        checks.same("place(0)", forge.place(0), 1);
        checks.same("place(1)", forge.place(1), 3);
        checks.same("halfword(5)", forge.halfword(5), 8192);
    }

    private interface Row {
        int get(int i);
    }

    private void noneOf(ThumbForge forge, String what, int[] bad, Row row) {
        for (int i : bad) {
            checks.refused(what + "(" + i + ")", forge, Checks.NONE, () -> row.get(i));
        }
    }

    private void forgeAgain() {
        ThumbForge forge = new ThumbForge();
        forge.constant(0, 123456789);
        forge.constant(0, 987654321);
        forge.stop(-1);
        forge.forge();
        String before = Checks.seen(forge);
        forge.start();
        forge.run(1);
        checks.same("forging again", forge.forge(), 10);
        checks.sameText("gives the same, and the machine is off", Checks.seen(forge), before);
        forge.clear();
        forge.stop(-1);
        checks.same("a shorter image", forge.forge(), 4);
        checks.sameText("has nothing of the old one", Arrays.toString(Checks.image(forge)), "[19200, 57089, 0, 8192]");
    }
}
