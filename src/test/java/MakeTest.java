import java.util.ArrayList;
import java.util.Arrays;
import java.util.List;

/** Terms, for promise 11: MAKE, the literals and the pool. Above each test stand the words that it holds. */
public final class MakeTest {
    private final Checks checks = new Checks();

    public static void main(String[] args) {
        MakeTest test = new MakeTest();
        test.smallNumbers();
        test.smallNumbersBelow0();
        test.shiftedNumbers();
        test.leastShift();
        test.shiftsEndAt24();
        test.withoutASign();
        test.otherwiseALiteral();
        test.firstThatFits();
        test.everyShiftedNumber();
        test.inASlot();
        test.whereTheLiteralIs();
        test.theFirstLiteral();
        test.oddCode();
        test.evenCode();
        test.eachNumberOnce();
        test.inTheOrderInWhichTheyCome();
        test.madeNumbersAreNotInThePool();
        test.lowerBitsThenHigher();
        test.asManyLiteralsAsThereCanBe();
        test.theFarthestLiteral();
        test.checks.finish();
    }

    /** The halfwords of CONSTANT d k. */
    private static int[] made(int d, int k) {
        ThumbForge forge = new ThumbForge();
        forge.constant(d, k);
        forge.stop(-1);
        forge.forge();
        return Arrays.copyOfRange(Look.image(forge), 1, forge.place(1));
    }

    private void due(int d, int k, int... due) {
        checks.sameText("CONSTANT " + d + " " + k, Arrays.toString(made(d, k)), Arrays.toString(due));
    }

    private void literal(int k) {
        due(3, k, 18432 + 256 * 7 + 2);
    }

    private void whole(String what, Forges.Call write, int... due) {
        ThumbForge forge = new ThumbForge();
        write.on(forge);
        checks.same(what + ", its length", forge.forge(), due.length);
        checks.sameText(what, Arrays.toString(Look.image(forge)), Arrays.toString(due));
    }

    // "k is 0 .. 255: 8192 + 256 z + k."
    private void smallNumbers() {
        due(0, 0, 8192 + 1024);
        due(0, 1, 8192 + 1024 + 1);
        due(1, 128, 8192 + 1280 + 128);
        due(3, 254, 8192 + 1792 + 254);
        due(3, 255, 8192 + 1792 + 255);
        due(3, 256, 8192 + 1792 + 128, 64 + 63);
    }

    // "k is -256 .. -1: 8192 + 256 z + (-1 - k), then 17344 + 9 z."
    private void smallNumbersBelow0() {
        due(1, -1, 8192 + 1280, 17344 + 45);
        due(1, -2, 8192 + 1280 + 1, 17344 + 45);
        due(2, -255, 8192 + 1536 + 254, 17344 + 54);
        due(2, -256, 8192 + 1536 + 255, 17344 + 54);
        literal(-257);
        literal(-258);
        literal(-512);
    }

    // "k is m shifted left by s, with m 1 .. 255 and s 1 .. 24"
    private void shiftedNumbers() {
        due(0, 256, 9216 + 128, 64 + 36);
        due(0, 258, 9216 + 129, 64 + 36);
        due(0, 508, 9216 + 254, 64 + 36);
        due(0, 510, 9216 + 255, 64 + 36);
        due(0, 512, 9216 + 128, 128 + 36);
        due(0, 1020, 9216 + 255, 128 + 36);
        literal(257);
        literal(511);
        literal(514);
        literal(513);
        literal(1018);
        literal(1022);
    }

    // "the least such s"
    private void leastShift() {
        due(0, 1024, 9216 + 128, 64 * 3 + 36);
        due(0, 65536, 9216 + 128, 64 * 9 + 36);
        due(0, 3 << 20, 9216 + 192, 64 * 14 + 36);
        due(0, 536870912, 9216 + 128, 64 * 22 + 36);
        due(0, 1 << 30, 9216 + 128, 64 * 23 + 36);
        due(0, 5 << 9, 9216 + 160, 64 * 4 + 36);
    }

    // "s 1 .. 24"
    private void shiftsEndAt24() {
        due(1, 0x7f800000, 9472 + 255, 64 * 23 + 45);
        due(1, 0x81000000, 9472 + 129, 64 * 24 + 45);
        due(1, 0x7f000000, 9472 + 254, 64 * 23 + 45);
        literal(0x7fc00000);
        literal(0x80800000);
        literal(0x81800000);
        literal(0xff800000);
    }

    // "as a number without a sign"
    private void withoutASign() {
        due(0, Forges.LEAST, 9216 + 128, 64 * 24 + 36);
        due(0, 0xff000000, 9216 + 255, 64 * 24 + 36);
        due(0, 0xfe000000, 9216 + 254, 64 * 24 + 36);
        due(0, 0xc0000000, 9216 + 192, 64 * 24 + 36);
        literal(0xffff0000);
        literal(0xfffffe00);
        literal(0xfe800000);
    }

    // "Otherwise a LITERAL for z of k"
    private void otherwiseALiteral() {
        for (int k : new int[] {257, -257, 0x01010101, 0x80000001, 0x80800001, Forges.MOST, 0xfffffeff, 65535, 65537}) {
            whole("literal " + k, f -> { f.constant(3, k); f.stop(-1); },
                19201, 18432 + 1792 + 2, 57089, 0, 0, 8192, k & 65535, k >>> 16);
        }
    }

    // "the first that fits": 2 .. 254, even, could be shifted as well; so could some below 0, if signs were counted.
    private void firstThatFits() {
        due(0, 2, 9216 + 2);
        due(0, 254, 9216 + 254);
        due(0, -128, 9216 + 127, 17344 + 36);
        due(0, -254, 9216 + 253, 17344 + 36);
    }

    /** All m and s, and a number that has one bit more at either end. */
    private void everyShiftedNumber() {
        List<Integer> numbers = new ArrayList<>();
        for (int s = 1; s <= 24; s++) {
            for (int m = 1; m <= 255; m++) {
                numbers.add(m << s);
                numbers.add(m << s | 1 << s - 1);
                numbers.add(-(m << s));
            }
        }
        for (int from = 0; from < numbers.size(); from += 47) {
            allOf(numbers.subList(from, Math.min(numbers.size(), from + 47)));
        }
    }

    private void allOf(List<Integer> numbers) {
        ThumbForge forge = new ThumbForge();
        for (int k : numbers) {
            forge.constant(2, k);
        }
        forge.stop(-1);
        forge.forge();
        for (int i = 0; i < numbers.size(); i++) {
            int k = numbers.get(i);
            int place = forge.place(i);
            int length = forge.place(i + 1) - place;
            int first = forge.halfword(place);
            int due = shiftDue(k);
            if (k >= 0 && k <= 255) {
                checks.same(k + " is one halfword", first, 8192 + 1536 + k);
                checks.same(k + " is so long", length, 1);
            } else if (k >= -256 && k <= -1) {
                checks.same(k + " is turned round", forge.halfword(place + 1), 17344 + 54);
                checks.same(k + " is so long", length, 2);
            } else if (due > 0) {
                checks.same(k + " has its m", first, 8192 + 1536 + (k >>> due));
                checks.same(k + " has its s", forge.halfword(place + 1), 64 * due + 54);
                checks.same(k + " is so long", length, 2);
            } else {
                checks.holds(k + " is a literal", first >> 8 == 18432 + 1536 >> 8);
                checks.same(k + " is so long", length, 1);
            }
        }
    }

    /** By the document's words: looked for among all m and s. */
    private static int shiftDue(int k) {
        for (int s = 1; s <= 24; s++) {
            for (int m = 1; m <= 255; m++) {
                if ((long) m << s == (k & 0xffffffffL)) {
                    return s;
                }
            }
        }
        return 0;
    }

    // "THE TARGET z for d is its register, or 0 if it has a slot; to KEEP z there is no halfword, or, for slot s, 36864 + s."
    private void inASlot() {
        due(3, 9, 8192 + 1792 + 9);
        due(4, 9, 8192 + 9, 36864);
        due(7, 255, 8192 + 255, 36867);
        due(5, -2, 8192 + 1, 17344, 36865);
        due(6, 0x3fc, 8192 + 255, 128, 36866);
        whole("literal in a slot", f -> { f.constant(6, 257); f.stop(-1); }, 19201, 18433 + 1, 36866, 57089, 0, 8192, 257, 0);
    }

    // "A being the address of this halfword plus 4, less 2 if that is not divisible by 4."
    private void whereTheLiteralIs() {
        whole("at an even place", f -> { f.constant(0, 1); f.constant(0, 1000000); f.stop(-1); },
            19201, 9217, 18432 + 1024 + 1, 57089, 0, 8192, 16960, 15);
        whole("at an odd place", f -> { f.constant(0, 1); f.constant(0, 1); f.constant(0, 1000000); f.stop(-1); },
            19202, 9217, 9217, 18432 + 1024 + 2, 57089, 0, 0, 8192, 16960, 15);
    }

    // "The image begins with a LITERAL for register 3 of the number 536870912."
    private void theFirstLiteral() {
        whole("an END", f -> f.stop(-1), 19200, 57089, 0, 8192);
        whole("a TRAP", f -> f.stop(255), 19200, 57087, 0, 8192);
    }

    // "after a halfword 0 if the code has an odd number of halfwords"
    private void oddCode() {
        whole("three halfwords", f -> { f.stop(0); f.stop(255); }, 19201, 56832, 57087, 0, 0, 8192);
        whole("five halfwords", f -> { f.stop(1); f.stop(2); f.stop(3); f.stop(-1); },
            19202, 56833, 56834, 56835, 57089, 0, 0, 8192);
    }

    private void evenCode() {
        whole("four halfwords", f -> { f.stop(1); f.stop(2); f.stop(-1); }, 19201, 56833, 56834, 57089, 0, 8192);
    }

    // "it has each number that some literal needs once"
    private void eachNumberOnce() {
        whole("one number three times", f -> { f.constant(0, 257); f.constant(4, 257); f.constant(1, 257); f.stop(-1); },
            19202, 19456 + 3, 18432 + 2, 36864, 19712 + 1, 57089, 0, 8192, 257, 0);
        whole("neighbours are two numbers", f -> { f.constant(0, 65537); f.constant(0, 131073); f.constant(0, 65539); f.stop(-1); },
            19202, 19456 + 3, 19456 + 3, 19456 + 4, 57089, 0, 0, 8192, 1, 1, 1, 2, 3, 1);
    }

    // "in the order in which they first come"
    private void inTheOrderInWhichTheyCome() {
        whole("as they first come", f -> {
            f.constant(0, 70001);
            f.constant(1, -70001);
            f.constant(4, 70001);
            f.constant(2, 536870913);
            f.constant(3, -70001);
            f.constant(5, 536870912);
            f.stop(7);
        }, 19200 + 5, 18432 + 1024 + 6, 18432 + 1280 + 6, 18432 + 5, 36864, 18432 + 1536 + 6,
            18432 + 1792 + 4, 8192 + 128, 64 * 22, 36865, 56839, 0,
            0, 8192, 4465, 1, 61071, 65534, 1, 8192);
    }

    // "each number that some literal needs": a number that is made otherwise is not one.
    private void madeNumbersAreNotInThePool() {
        whole("made, not kept", f -> { f.constant(0, 255); f.constant(0, -256); f.constant(0, 510); f.stop(-1); },
            19203, 9216 + 255, 9216 + 255, 17344 + 36, 9216 + 255, 64 + 36, 57089, 0, 0, 8192);
    }

    // "two halfwords each: its lower 16 bits, then its higher ones"; "HALFWORDS (0 .. 65535)"
    private void lowerBitsThenHigher() {
        halves(0x0001ffff, 65535, 1);
        halves(0xfffffeff, 65279, 65535);
        halves(Forges.MOST, 65535, 32767);
        halves(0x80000001, 1, 32768);
        halves(0xffff0000, 0, 65535);
        halves(0x0000ffff, 65535, 0);
    }

    private void halves(int k, int lower, int higher) {
        whole("the halves of " + k, f -> { f.constant(0, k); f.stop(-1); }, 19201, 19456 + 2, 57089, 0, 0, 8192, lower, higher);
    }

    private void asManyLiteralsAsThereCanBe() {
        for (int d : new int[] {0, 4}) {
            int each = d < 4 ? 1 : 2;
            ThumbForge forge = new ThumbForge();
            for (int i = 0; i < 47; i++) {
                forge.constant(d, 100001 + 65536 * i);
            }
            forge.stop(-1);
            int code = 1 + 47 * each + 1;
            int pool = code + code % 2;
            checks.same("47 literals", forge.forge(), pool + 2 * 48);
            for (int i = 0; i < 47; i++) {
                int place = forge.place(i);
                int literal = (2 * place + 4) / 4 * 2 + 2 * (forge.halfword(place) & 255);
                checks.same("the place of literal " + i, literal, pool + 2 + 2 * i);
                checks.same("literal " + i, forge.halfword(literal) + 65536 * forge.halfword(literal + 1), 100001 + 65536 * i);
            }
        }
    }

    private void theFarthestLiteral() {
        ThumbForge forge = new ThumbForge();
        forge.constant(0, 100001);
        for (int i = 0; i < 46; i++) {
            forge.store(4, 5);
        }
        forge.stop(-1);
        checks.same("length", forge.forge(), 1 + 1 + 46 * 6 + 1 + 1 + 4);
        checks.same("the memory's address", forge.halfword(0), 19200 + (2 * 280 - 4) / 4);
        checks.same("the literal", forge.halfword(1), 19456 + (2 * 280 + 4 - 4) / 4);
    }
}
