import java.util.NoSuchElementException;

/** A forge of halfwords for a small processor, and the machine that runs them; see README.md. */
public final class ThumbForge {
    public static final int OFF = 0, RUNS = 1, ENDED = 2, TRAPPED = 3;

    private static final int MOST_INSTRUCTIONS = 48;
    private static final int VARIABLES = 8;
    private static final int WORDS = 8;
    private static final int HIGHEST_TRAP = 255;
    private static final int MOST_TO_RUN = 2000;

    private static final int CONSTANT = 0, COMPUTE = 1, LOAD = 2, STORE = 3, JUMP = 4, BRANCH = 5, OUT = 6, END = 7, TRAP = 8;

    private final Program program;
    private final Image image;
    private final Machine machine;

    public ThumbForge() {
        program = new Program();
        image = new Image(program);
        machine = new Machine(program, image);
    }

    public int constant(int d, int k) throws IllegalArgumentException, IllegalStateException {
        needVariable(d);
        return append(CONSTANT, 0, d, 0, 0, k);
    }

    public int compute(int op, int d, int a, int b) throws IllegalArgumentException, IllegalStateException {
        if (op < 0 || op > 7) {
            throw new IllegalArgumentException("no such operation");
        }
        needVariable(d);
        needVariable(a);
        needVariable(b);
        return append(COMPUTE, op, d, a, b, 0);
    }

    public int load(int d, int a) throws IllegalArgumentException, IllegalStateException {
        needVariable(d);
        needVariable(a);
        return append(LOAD, 0, d, a, 0, 0);
    }

    public int store(int a, int b) throws IllegalArgumentException, IllegalStateException {
        needVariable(a);
        needVariable(b);
        return append(STORE, 0, 0, a, b, 0);
    }

    public int jump(int t) throws IllegalArgumentException, IllegalStateException {
        needTarget(t);
        return append(JUMP, 0, 0, 0, 0, t);
    }

    public int branch(int c, int a, int b, int t) throws IllegalArgumentException, IllegalStateException {
        if (!isRelation(c)) {
            throw new IllegalArgumentException("no such relation");
        }
        needVariable(a);
        needVariable(b);
        needTarget(t);
        return append(BRANCH, c, 0, a, b, t);
    }

    public int out(int a) throws IllegalArgumentException, IllegalStateException {
        needVariable(a);
        return append(OUT, 0, 0, a, 0, 0);
    }

    public int stop(int k) throws IllegalArgumentException, IllegalStateException {
        if (k < -1 || k > HIGHEST_TRAP) {
            throw new IllegalArgumentException("no such stop");
        }
        return k == -1 ? append(END, 0, 0, 0, 0, 0) : append(TRAP, 0, 0, 0, 0, k);
    }

    public void clear() {
        program.empty();
        discardImage();
    }

    public int forge() throws IllegalStateException {
        if (!program.canBeForged()) {
            throw new IllegalStateException("the program is not whole");
        }
        machine.turnOff();
        image.make();
        return image.length;
    }

    public int halfword(int i) throws NoSuchElementException {
        if (!image.made || i < 0 || i >= image.length) {
            throw new NoSuchElementException("no such halfword");
        }
        return image.halfwords[i];
    }

    public int place(int i) throws NoSuchElementException {
        if (!image.made || i < 0 || i >= program.count) {
            throw new NoSuchElementException("no such place");
        }
        return image.places[i];
    }

    public void poke(int x, int v) throws IllegalArgumentException {
        needWord(x);
        machine.words[x] = v;
    }

    public int memory(int x) throws IllegalArgumentException {
        needWord(x);
        return machine.words[x];
    }

    public void start() throws IllegalStateException {
        if (!image.made) {
            throw new IllegalStateException("there is no image");
        }
        machine.turnOn();
    }

    public int run(int n) throws IllegalArgumentException, IllegalStateException {
        if (n < 0 || n > MOST_TO_RUN) {
            throw new IllegalArgumentException("no such number of halfwords");
        }
        if (machine.mode != RUNS) {
            throw new IllegalStateException("the machine does not run");
        }
        return machine.goOn(n);
    }

    public int state() {
        return machine.mode == TRAPPED ? TRAPPED + 4 * machine.trap : machine.mode;
    }

    public int at() {
        return machine.mode == OFF ? -1 : machine.next;
    }

    public int variable(int a) throws IllegalArgumentException, IllegalStateException {
        needVariable(a);
        if (machine.mode == OFF) {
            throw new IllegalStateException("the machine is off");
        }
        return machine.values[a];
    }

    public int outputs() {
        return machine.outCount;
    }

    public int output(int i) throws NoSuchElementException {
        if (!machine.keeps(i)) {
            throw new NoSuchElementException("no such output");
        }
        return machine.keptOutput(i);
    }

    private int append(int kind, int code, int d, int a, int b, int number) {
        if (program.count >= MOST_INSTRUCTIONS) {
            throw new IllegalStateException("the program is full");
        }
        discardImage();
        return program.add(kind, code, d, a, b, number);
    }

    private void discardImage() {
        image.made = false;
        machine.turnOff();
    }

    private static void needVariable(int a) {
        if (a < 0 || a >= VARIABLES) {
            throw new IllegalArgumentException("no such variable");
        }
    }

    private static void needTarget(int t) {
        if (t < 0 || t >= MOST_INSTRUCTIONS) {
            throw new IllegalArgumentException("no such target");
        }
    }

    private static void needWord(int x) {
        if (x < 0 || x >= WORDS) {
            throw new IllegalArgumentException("no such word of memory");
        }
    }

    private static boolean isRelation(int c) {
        return c >= 0 && c <= 3 || c >= 8 && c <= 13;
    }

    /** The instructions, a row for each part; a part that a kind does not have is 0. */
    private static final class Program {
        final int[] kinds = new int[MOST_INSTRUCTIONS];
        /** The op of a COMPUTE, the relation of a BRANCH. */
        final int[] codes = new int[MOST_INSTRUCTIONS];
        final int[] targets = new int[MOST_INSTRUCTIONS];
        final int[] firsts = new int[MOST_INSTRUCTIONS];
        final int[] seconds = new int[MOST_INSTRUCTIONS];
        /** The k of a CONSTANT or TRAP, the t of a JUMP or BRANCH. */
        final int[] numbers = new int[MOST_INSTRUCTIONS];
        int count;

        void empty() {
            count = 0;
        }

        /** Its caller has seen that there is room. */
        int add(int kind, int code, int d, int a, int b, int number) {
            int i = count;
            kinds[i] = kind;
            codes[i] = code;
            targets[i] = d;
            firsts[i] = a;
            seconds[i] = b;
            numbers[i] = number;
            count = i + 1;
            return i;
        }

        boolean canBeForged() {
            if (count == 0 || !neverGoesOnBehind(kinds[count - 1])) {
                return false;
            }
            for (int i = 0; i < count; i++) {
                if ((kinds[i] == JUMP || kinds[i] == BRANCH) && numbers[i] >= count) {
                    return false;
                }
            }
            return true;
        }

        private static boolean neverGoesOnBehind(int kind) {
            return kind == JUMP || kind == END || kind == TRAP;
        }
    }

    /** The halfwords of a program that can be forged. */
    private static final class Image {
        private static final int LONGEST_INSTRUCTION = 6;
        private static final int MOST_LITERALS = MOST_INSTRUCTIONS + 1;
        private static final int MOST_HALFWORDS = 1 + LONGEST_INSTRUCTION * MOST_INSTRUCTIONS + 1 + 2 * MOST_LITERALS;

        private static final int FIRST_REGISTER = 4;
        private static final int VARIABLES_WITH_REGISTERS = 4;
        private static final int MEMORY_REGISTER = 3;
        private static final int MEMORY_ADDRESS = 536870912;

        private static final int FETCH_SLOT = 38912, KEEP_SLOT = 36864;
        private static final int SET_SMALL = 8192, TURN_BITS_ROUND = 17344, SHIFT_BY_NUMBER = 64, SET_LITERAL = 18432;
        private static final int ADD = 6144, SUBTRACT = 6656;
        private static final int SET_1_TO_7 = 8455, AND_INTO_1 = 16385, SHIFT_1_BY_2 = 137;
        private static final int LOAD_WORD = 22528 + 64 + 24, STORE_WORD = 20480 + 64 + 24;
        private static final int COMPARE = 17024, BRANCH_IF = 53248, GO = 57344;
        private static final int PUT_OUT = 57088, HALT = 57089, GIVE_UP = 56832;
        /** What changes register 0, for the ops 2 .. 7. */
        private static final int[] CHANGE_0 = {17216, 16384, 17152, 16448, 16512, 16576};
        private static final int FIRST_CHANGING_OP = 2;

        private static final int LEAST_SHORT = -128, MOST_SHORT = 127;

        private final Program program;
        final int[] halfwords = new int[MOST_HALFWORDS];
        /** One more than the instructions: the last is where the code ends. */
        final int[] places = new int[MOST_INSTRUCTIONS + 1];
        final boolean[] isLong = new boolean[MOST_INSTRUCTIONS];
        private final int[] literals = new int[MOST_LITERALS];
        private int literalCount;
        private int poolPlace;
        int length;
        boolean made;

        Image(Program program) {
            this.program = program;
        }

        /** A longer branch never brings another one nearer to its target, so what must be long in one pass must be long at last. */
        void make() {
            for (int i = 0; i < MOST_INSTRUCTIONS; i++) {
                isLong[i] = false;
            }
            for (int pass = 0; pass <= MOST_INSTRUCTIONS; pass++) {
                writeCode();
                if (!lengthenBranches()) {
                    break;
                }
            }
            // The passes before this one did not yet know the places behind them, nor that of the pool.
            writeCode();
            writePool();
            made = true;
        }

        int lengthOf(int i) {
            return places[i + 1] - places[i];
        }

        /** Makes each short branch that does not reach long: whether there was one. */
        private boolean lengthenBranches() {
            boolean changed = false;
            for (int i = 0; i < program.count; i++) {
                if (program.kinds[i] == BRANCH && !isLong[i] && !reaches(i)) {
                    isLong[i] = true;
                    changed = true;
                }
            }
            return changed;
        }

        private boolean reaches(int i) {
            int distance = distance(places[i + 1] - 1, program.numbers[i]);
            return distance >= LEAST_SHORT && distance <= MOST_SHORT;
        }

        private int distance(int place, int t) {
            return places[t] - place - 2;
        }

        private void writeCode() {
            length = 0;
            literalCount = 0;
            writeLiteral(MEMORY_ADDRESS, MEMORY_REGISTER);
            for (int i = 0; i < program.count; i++) {
                places[i] = length;
                writeInstruction(i);
            }
            places[program.count] = length;
            poolPlace = length + length % 2;
        }

        private void writePool() {
            if (length < poolPlace) {
                put(0);
            }
            for (int i = 0; i < literalCount; i++) {
                put(literals[i] & 65535);
                put(literals[i] >>> 16);
            }
        }

        private void writeInstruction(int i) {
            int d = program.targets[i];
            int a = program.firsts[i];
            int b = program.seconds[i];
            int number = program.numbers[i];
            switch (program.kinds[i]) {
                case CONSTANT:
                    writeNumber(number, targetOf(d));
                    keep(d);
                    break;
                case COMPUTE:
                    writeCompute(program.codes[i], d, a, b);
                    break;
                case LOAD:
                    writeWordChoice(a);
                    put(LOAD_WORD + targetOf(d));
                    keep(d);
                    break;
                case STORE:
                    writeWordChoice(a);
                    put(STORE_WORD + fetch(b, 0));
                    break;
                case JUMP:
                    writeJump(number);
                    break;
                case BRANCH:
                    writeBranch(program.codes[i], a, b, number, isLong[i]);
                    break;
                case OUT:
                    copyTo0(a);
                    put(PUT_OUT);
                    break;
                case END:
                    put(HALT);
                    break;
                default:
                    put(GIVE_UP + number);
                    break;
            }
        }

        /** Makes number in register z. */
        private void writeNumber(int number, int z) {
            if (number >= 0 && number <= 255) {
                put(SET_SMALL + 256 * z + number);
                return;
            }
            if (number >= -256 && number <= -1) {
                put(SET_SMALL + 256 * z + (-1 - number));
                put(TURN_BITS_ROUND + 9 * z);
                return;
            }
            int shift = leastShift(number);
            if (shift == 0) {
                writeLiteral(number, z);
                return;
            }
            put(SET_SMALL + 256 * z + (number >>> shift));
            put(SHIFT_BY_NUMBER * shift + 9 * z);
        }

        /** The least shift that makes number of 1 .. 255, or 0 if there is none. */
        private static int leastShift(int number) {
            for (int shift = 1; shift <= 24; shift++) {
                int small = number >>> shift;
                if (small >= 1 && small <= 255 && small << shift == number) {
                    return shift;
                }
            }
            return 0;
        }

        private void writeLiteral(int number, int z) {
            int address = 2 * poolPlace + 4 * literalIndex(number);
            int base = 2 * length + 4;
            base -= base % 4;
            put(SET_LITERAL + 256 * z + (address - base) / 4);
        }

        private int literalIndex(int number) {
            for (int i = 0; i < literalCount; i++) {
                if (literals[i] == number) {
                    return i;
                }
            }
            if (literalCount < MOST_LITERALS) {
                literals[literalCount] = number;
                literalCount++;
            }
            return literalCount - 1;
        }

        private void writeCompute(int op, int d, int a, int b) {
            if (op < FIRST_CHANGING_OP) {
                int x = fetch(a, 0);
                int y = fetch(b, 1);
                put((op == 0 ? ADD : SUBTRACT) + 64 * y + 8 * x + targetOf(d));
                keep(d);
                return;
            }
            copyTo0(a);
            int y = fetch(b, 1);
            put(CHANGE_0[op - FIRST_CHANGING_OP] + 8 * y);
            if (hasRegister(d)) {
                put(registerOf(d));
            } else {
                keep(d);
            }
        }

        /** Makes register 1 the distance of memory's word V(a) & 7 from memory's first. */
        private void writeWordChoice(int a) {
            int x = fetch(a, 0);
            put(SET_1_TO_7);
            put(AND_INTO_1 + 8 * x);
            put(SHIFT_1_BY_2);
        }

        private void writeBranch(int relation, int a, int b, int t, boolean isLongOne) {
            int x = fetch(a, 0);
            int y = fetch(b, 1);
            put(COMPARE + 8 * y + x);
            if (isLongOne) {
                put(BRANCH_IF + 256 * (relation ^ 1));
                writeJump(t);
            } else {
                put(BRANCH_IF + 256 * relation + (distance(length, t) & 255));
            }
        }

        private void writeJump(int t) {
            put(GO + (distance(length, t) & 2047));
        }

        /** The register in which the variable then is: its own, or the spare one. */
        private int fetch(int variable, int spare) {
            if (hasRegister(variable)) {
                return registerOf(variable);
            }
            put(FETCH_SLOT + 256 * spare + slotOf(variable));
            return spare;
        }

        private void copyTo0(int variable) {
            put(hasRegister(variable) ? 8 * registerOf(variable) : FETCH_SLOT + slotOf(variable));
        }

        private void keep(int variable) {
            if (!hasRegister(variable)) {
                put(KEEP_SLOT + slotOf(variable));
            }
        }

        private static int targetOf(int variable) {
            return hasRegister(variable) ? registerOf(variable) : 0;
        }

        private static boolean hasRegister(int variable) {
            return variable < VARIABLES_WITH_REGISTERS;
        }

        private static int registerOf(int variable) {
            return FIRST_REGISTER + variable;
        }

        private static int slotOf(int variable) {
            return variable - VARIABLES_WITH_REGISTERS;
        }

        private void put(int halfword) {
            if (length < MOST_HALFWORDS) {
                halfwords[length] = halfword;
                length++;
            }
        }
    }

    /** Does the program's instructions, counting the halfwords that the image has for them. */
    private static final class Machine {
        private static final int KEPT_OUTPUTS = 16;
        private static final int SIGN = 1 << 31;

        private final Program program;
        private final Image image;
        final int[] words = new int[WORDS];
        final int[] values = new int[VARIABLES];
        private final int[] kept = new int[KEPT_OUTPUTS];
        int outCount;
        int mode;
        int trap;
        /** While the machine runs this is an instruction's number: the last one never goes on behind, and each t is one. */
        int next;

        Machine(Program program, Image image) {
            this.program = program;
            this.image = image;
            mode = OFF;
        }

        void turnOff() {
            mode = OFF;
            outCount = 0;
        }

        void turnOn() {
            for (int i = 0; i < VARIABLES; i++) {
                values[i] = 0;
            }
            mode = RUNS;
            outCount = 0;
            next = 0;
        }

        /** Each instruction has a halfword at least, so n of them are always enough. */
        int goOn(int n) {
            int done = 0;
            for (int i = 0; i < n && done < n && mode == RUNS; i++) {
                done += step();
            }
            return done;
        }

        boolean keeps(int i) {
            return i >= 0 && i < outCount && i >= outCount - KEPT_OUTPUTS;
        }

        int keptOutput(int i) {
            return kept[i & (KEPT_OUTPUTS - 1)];
        }

        /** Does the next instruction: how many halfwords it did. */
        private int step() {
            int i = next;
            int x = values[program.firsts[i]];
            int y = values[program.seconds[i]];
            int number = program.numbers[i];
            int done = image.lengthOf(i);
            next = i + 1;
            switch (program.kinds[i]) {
                case CONSTANT:
                    values[program.targets[i]] = number;
                    break;
                case COMPUTE:
                    values[program.targets[i]] = result(program.codes[i], x, y);
                    break;
                case LOAD:
                    values[program.targets[i]] = words[x & (WORDS - 1)];
                    break;
                case STORE:
                    words[x & (WORDS - 1)] = y;
                    break;
                case JUMP:
                    next = number;
                    break;
                case BRANCH:
                    if (holds(program.codes[i], x, y)) {
                        next = number;
                    } else if (image.isLong[i]) {
                        done--;
                    }
                    break;
                case OUT:
                    putOut(x);
                    break;
                case END:
                    next = i;
                    mode = ENDED;
                    break;
                default:
                    next = i;
                    mode = TRAPPED;
                    trap = number;
                    break;
            }
            return done;
        }

        private void putOut(int value) {
            kept[outCount & (KEPT_OUTPUTS - 1)] = value;
            outCount++;
        }

        private static int result(int op, int x, int y) {
            int shift = y & 255;
            switch (op) {
                case 0:
                    return x + y;
                case 1:
                    return x - y;
                case 2:
                    return x * y;
                case 3:
                    return x & y;
                case 4:
                    return x | y;
                case 5:
                    return x ^ y;
                case 6:
                    return shift < 32 ? x << shift : 0;
                default:
                    return shift < 32 ? x >>> shift : 0;
            }
        }

        private static boolean holds(int relation, int x, int y) {
            // With the sign bit turned round, the order with a sign is the order without one.
            int unsignedX = x ^ SIGN;
            int unsignedY = y ^ SIGN;
            switch (relation) {
                case 0:
                    return x == y;
                case 1:
                    return x != y;
                case 2:
                    return unsignedX >= unsignedY;
                case 3:
                    return unsignedX < unsignedY;
                case 8:
                    return unsignedX > unsignedY;
                case 9:
                    return unsignedX <= unsignedY;
                case 10:
                    return x >= y;
                case 11:
                    return x < y;
                case 12:
                    return x > y;
                default:
                    return x <= y;
            }
        }
    }
}
