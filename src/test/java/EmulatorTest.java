import java.util.Arrays;
import java.util.Random;

/**
 * Random programs: their image, read halfword by halfword and run by an emulator of the processor
 * (written after the processor's own manual, not after the document), does what the machine does.
 */
public final class EmulatorTest {
    private static final int PROGRAMS = 1500;

    private final Checks checks = new Checks();
    private int longBranches = 0;
    private int ends = 0;
    private int traps = 0;

    public static void main(String[] args) {
        EmulatorTest test = new EmulatorTest();
        for (int seed = 0; seed < PROGRAMS; seed++) {
            test.compare(seed);
        }
        test.checks.holds("enough of each kind was met: " + test.longBranches + " long branches, " + test.ends + " ENDs, " + test.traps + " TRAPs",
            test.longBranches > 100 && test.ends > 100 && test.traps > 100);
        test.checks.finish();
    }

    /** One object shows its image, a twin of it runs: an object is promised to last for 512 calls only. */
    private void compare(int seed) {
        ThumbForge shown = written(new Random(seed));
        int length = shown.forge();
        Emulator emulator = new Emulator(Look.image(shown), Look.places(shown), Look.memory(shown));
        ThumbForge forge = written(new Random(seed));
        checks.same("program " + seed + ", forge()", forge.forge(), length);
        forge.start();
        Random random = new Random(-seed);
        for (int call = 0; call < 12 && emulator.state == 1; call++) {
            int n = random.nextInt(4) == 0 ? random.nextInt(1000) : random.nextInt(12);
            int due = emulator.run(n);
            String what = "program " + seed + ", run(" + n + ")";
            checks.same(what, forge.run(n), due);
            checks.same(what + ", state", forge.state(), emulator.state);
            checks.same(what + ", at", forge.at(), emulator.instruction);
            checks.sameText(what + ", variables", Arrays.toString(Look.variables(forge)), Arrays.toString(emulator.variables()));
            checks.sameText(what + ", memory", Arrays.toString(Look.memory(forge)), Arrays.toString(emulator.memory));
            checks.same(what + ", outputs", forge.outputs(), emulator.outputs);
            for (int i = Math.max(0, emulator.outputs - 16); i < emulator.outputs; i++) {
                checks.same(what + ", output " + i, forge.output(i), emulator.output[i]);
            }
        }
        longBranches += emulator.longTaken;
        ends += emulator.state == 2 ? 1 : 0;
        traps += emulator.state > 2 ? 1 : 0;
    }

    private static ThumbForge written(Random random) {
        ThumbForge forge = new ThumbForge();
        int count = 1 + random.nextInt(48);
        for (int i = 0; i < count - 1; i++) {
            append(forge, random, count);
        }
        if (random.nextInt(3) == 0) {
            forge.jump(random.nextInt(count));
        } else {
            forge.stop(random.nextBoolean() ? -1 : random.nextInt(256));
        }
        for (int x = 0; x < 8; x++) {
            forge.poke(x, number(random));
        }
        return forge;
    }

    private static void append(ThumbForge forge, Random random, int count) {
        int d = random.nextInt(8);
        int a = random.nextInt(8);
        int b = random.nextInt(8);
        switch (random.nextInt(16)) {
            case 0, 1, 2, 3 -> forge.constant(d, number(random));
            case 4, 5, 6, 7 -> forge.compute(random.nextInt(8), d, a, b);
            case 8, 9 -> forge.load(d, a);
            case 10, 11 -> forge.store(a, b);
            case 12 -> forge.out(a);
            case 13, 14 -> forge.branch(Forges.RELATIONS[random.nextInt(10)], a, b, random.nextInt(count));
            default -> {
                if (random.nextInt(3) == 0) {
                    forge.jump(random.nextInt(count));
                } else {
                    forge.out(b);
                }
            }
        }
    }

    private static int number(Random random) {
        switch (random.nextInt(6)) {
            case 0:
                return random.nextInt(3);
            case 1:
                return random.nextInt(520) - 260;
            case 2:
                return random.nextInt(300) << random.nextInt(32);
            case 3:
                return random.nextInt(40);
            case 4:
                return 1000001 * random.nextInt(4);
            default:
                return random.nextInt();
        }
    }

    private static final class Emulator {
        private static final int MEMORY = 0x20000000;

        private final int[] image;
        private final int[] places;
        private final int[] register = new int[8];
        private final int[] stack = new int[4];
        final int[] memory;
        final int[] output = new int[20000];
        int outputs = 0;
        int state = 1;
        int instruction = 0;
        int longTaken = 0;
        private int pc = 0;
        private boolean negative;
        private boolean zero;
        private boolean carry;
        private boolean overflow;

        Emulator(int[] image, int[] places, int[] memory) {
            this.image = image;
            this.places = places;
            this.memory = memory;
            step();
        }

        /** Stops only where an instruction begins. */
        int run(int n) {
            int done = 0;
            while (state == 1 && done < n) {
                do {
                    step();
                    done++;
                } while (state == 1 && !atAnInstruction());
            }
            return done;
        }

        int[] variables() {
            return new int[] {register[4], register[5], register[6], register[7], stack[0], stack[1], stack[2], stack[3]};
        }

        private boolean atAnInstruction() {
            for (int i = 0; i < places.length; i++) {
                if (2 * places[i] == pc) {
                    instruction = i;
                    return true;
                }
            }
            return false;
        }

        private void step() {
            int h = image[pc / 2];
            int here = pc;
            pc += 2;
            int low = h & 7;
            int middle = h >> 3 & 7;
            int high = h >> 6 & 7;
            int wide = h >> 8 & 7;
            int byteAtEnd = h & 255;
            if (h >> 11 == 0b00000) {
                flags(register[low] = register[middle] << (h >> 6 & 31));
            } else if (h >> 9 == 0b0001100) {
                flags(register[low] = register[middle] + register[high]);
            } else if (h >> 9 == 0b0001101) {
                flags(register[low] = register[middle] - register[high]);
            } else if (h >> 11 == 0b00100) {
                flags(register[wide] = byteAtEnd);
            } else if (h >> 10 == 0b010000) {
                process(h >> 6 & 15, low, register[middle]);
            } else if (h >> 11 == 0b01001) {
                register[wide] = wordOfCode((here + 4 & ~3) + 4 * byteAtEnd);
            } else if (h >> 9 == 0b0101100) {
                register[low] = memory[word(register[middle] + register[high])];
            } else if (h >> 9 == 0b0101000) {
                memory[word(register[middle] + register[high])] = register[low];
            } else if (h >> 11 == 0b10011) {
                register[wide] = stack[byteAtEnd];
            } else if (h >> 11 == 0b10010) {
                stack[byteAtEnd] = register[wide];
            } else if (h >> 8 == 0b11011110) {
                state = 3 + 4 * byteAtEnd;
            } else if (h >> 8 == 0b11011111) {
                call(byteAtEnd);
            } else if (h >> 12 == 0b1101) {
                if (passes(h >> 8 & 15)) {
                    pc = here + 4 + 2 * (byte) byteAtEnd;
                }
            } else if (h >> 11 == 0b11100) {
                pc = here + 4 + 2 * ((h & 2047) << 21 >> 21);
                longTaken += isBranchOverOne(image[here / 2 - 1]) ? 1 : 0;
            } else {
                throw new AssertionError("no such halfword: " + h);
            }
        }

        private static boolean isBranchOverOne(int h) {
            return (h & 0xf0ff) == 0xd000 && (h >> 8 & 15) < 14;
        }

        private void process(int op, int low, int y) {
            int x = register[low];
            int shift = y & 255;
            switch (op) {
                case 0b0000 -> flags(register[low] = x & y);
                case 0b0001 -> flags(register[low] = x ^ y);
                case 0b0010 -> flags(register[low] = (int) (shift > 31 ? 0 : (long) x << shift));
                case 0b0011 -> flags(register[low] = (int) (shift > 31 ? 0 : (x & 0xffffffffL) >> shift));
                case 0b1010 -> compare(x, y);
                case 0b1100 -> flags(register[low] = x | y);
                case 0b1101 -> flags(register[low] = x * y);
                case 0b1111 -> flags(register[low] = ~y);
                default -> throw new AssertionError("no such operation: " + op);
            }
        }

        private void flags(int result) {
            negative = result < 0;
            zero = result == 0;
        }

        private void compare(int x, int y) {
            long difference = (long) x - y;
            flags((int) difference);
            carry = (x & 0xffffffffL) >= (y & 0xffffffffL);
            overflow = difference != (int) difference;
        }

        private boolean passes(int condition) {
            return switch (condition) {
                case 0 -> zero;
                case 1 -> !zero;
                case 2 -> carry;
                case 3 -> !carry;
                case 8 -> carry && !zero;
                case 9 -> !carry || zero;
                case 10 -> negative == overflow;
                case 11 -> negative != overflow;
                case 12 -> !zero && negative == overflow;
                case 13 -> zero || negative != overflow;
                default -> throw new AssertionError("no such condition: " + condition);
            };
        }

        private void call(int number) {
            if (number == 1) {
                state = 2;
            } else if (number == 0) {
                output[outputs++] = register[0];
            } else {
                throw new AssertionError("no such call: " + number);
            }
        }

        private int wordOfCode(int address) {
            if (address % 4 != 0) {
                throw new AssertionError("no word has the address " + address);
            }
            return image[address / 2] | image[address / 2 + 1] << 16;
        }

        private static int word(int address) {
            int distance = address - MEMORY;
            if (distance < 0 || distance > 28 || distance % 4 != 0) {
                throw new AssertionError("no word has the address " + address);
            }
            return distance / 4;
        }
    }
}
