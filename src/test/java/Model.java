import java.util.ArrayList;
import java.util.Arrays;
import java.util.List;
import java.util.NoSuchElementException;
import java.util.TreeSet;

/**
 * The document's Terms and promises once more, as plainly as they can be written: the image is made
 * anew for every question, and a machine remembers all that it ever put out.
 */
final class Model {
    enum Kind { CONSTANT, COMPUTE, LOAD, STORE, JUMP, BRANCH, OUT, END, TRAP }

    /** What an instruction has no use for is 0. */
    record Instruction(Kind kind, int code, int d, int a, int b, int number) {
        boolean hasTarget() {
            return kind == Kind.JUMP || kind == Kind.BRANCH;
        }
    }

    private final List<Instruction> program = new ArrayList<>();
    private final int[] memory = new int[8];
    private boolean hasImage = false;
    private int state = 0;
    private int at = -1;
    private int[] variables = new int[8];
    private List<Integer> outputs = new ArrayList<>();
    /** Of the program that has the image. */
    private TreeSet<Integer> longOnes = new TreeSet<>();
    private List<Integer> places = new ArrayList<>();
    private List<Integer> halfwords = new ArrayList<>();

    int append(Instruction one, boolean argumentsAreRight) {
        if (!argumentsAreRight) {
            throw new IllegalArgumentException();
        }
        if (program.size() == 48) {
            throw new IllegalStateException();
        }
        program.add(one);
        takeImageAway();
        return program.size() - 1;
    }

    void clear() {
        program.clear();
        takeImageAway();
    }

    int forge() {
        if (program.isEmpty()) {
            throw new IllegalStateException();
        }
        if (!List.of(Kind.JUMP, Kind.END, Kind.TRAP).contains(program.get(program.size() - 1).kind)) {
            throw new IllegalStateException();
        }
        if (program.stream().anyMatch(one -> one.hasTarget() && one.number >= program.size())) {
            throw new IllegalStateException();
        }
        takeImageAway();
        hasImage = true;
        longOnes = new TreeSet<>();
        layOut();
        for (int i = tooFar(); i >= 0; i = tooFar()) {
            longOnes.add(i);
            layOut();
        }
        halfwords = image();
        return halfwords.size();
    }

    int halfword(int i) {
        if (!hasImage || i < 0 || i >= halfwords.size()) {
            throw new NoSuchElementException();
        }
        return halfwords.get(i);
    }

    int place(int i) {
        if (!hasImage || i < 0 || i >= program.size()) {
            throw new NoSuchElementException();
        }
        return places.get(i);
    }

    void poke(int x, int v) {
        needEight(x);
        memory[x] = v;
    }

    int memory(int x) {
        needEight(x);
        return memory[x];
    }

    void start() {
        if (!hasImage) {
            throw new IllegalStateException();
        }
        turnOff();
        state = 1;
        at = 0;
    }

    int run(int n) {
        if (n < 0 || n > 2000) {
            throw new IllegalArgumentException();
        }
        if (state != 1) {
            throw new IllegalStateException();
        }
        int done = 0;
        while (state == 1 && done < n) {
            done += halfwordsDone(at, program.get(at));
            step(program.get(at));
        }
        return done;
    }

    int state() {
        return state;
    }

    int at() {
        return at;
    }

    int variable(int a) {
        needEight(a);
        if (state == 0) {
            throw new IllegalStateException();
        }
        return variables[a];
    }

    int outputs() {
        return outputs.size();
    }

    int output(int i) {
        if (i < 0 || i >= outputs.size() || outputs.size() - i > 16) {
            throw new NoSuchElementException();
        }
        return outputs.get(i);
    }

    int longBranches() {
        return hasImage ? longOnes.size() : 0;
    }

    int literals() {
        return hasImage ? numbersOfPool().size() : 0;
    }

    static boolean areVariables(int... all) {
        return Arrays.stream(all).allMatch(a -> a >= 0 && a <= 7);
    }

    private static void needEight(int x) {
        if (x < 0 || x > 7) {
            throw new IllegalArgumentException();
        }
    }

    private void takeImageAway() {
        hasImage = false;
        turnOff();
    }

    private void turnOff() {
        state = 0;
        at = -1;
        variables = new int[8];
        outputs = new ArrayList<>();
    }

    // What an instruction does.

    private int halfwordsDone(int i, Instruction one) {
        int all = sizeOf(i);
        return longOnes.contains(i) && !related(one) ? all - 1 : all;
    }

    private void step(Instruction one) {
        int next = at + 1;
        int x = variables[one.a];
        int y = variables[one.b];
        switch (one.kind) {
            case CONSTANT -> variables[one.d] = one.number;
            case COMPUTE -> variables[one.d] = computed(one.code, x, y);
            case LOAD -> variables[one.d] = memory[x & 7];
            case STORE -> memory[x & 7] = y;
            case JUMP -> next = one.number;
            case BRANCH -> next = related(one) ? one.number : next;
            case OUT -> outputs.add(x);
            case END -> state = 2;
            case TRAP -> state = 3 + 4 * one.number;
        }
        at = state == 1 ? next : at;
    }

    /** With wide numbers, so that no rule of Java's ints comes in. */
    private static int computed(int op, int x, int y) {
        long wide = Integer.toUnsignedLong(x);
        int s = Math.floorMod(y, 256);
        return switch (op) {
            case 0 -> (int) (wide + y);
            case 1 -> (int) (wide - y);
            case 2 -> (int) (wide * y);
            case 3 -> x & y;
            case 4 -> x | y;
            case 5 -> x ^ y;
            case 6 -> s >= 32 ? 0 : (int) (wide << s);
            default -> s >= 32 ? 0 : (int) (wide >> s);
        };
    }

    private boolean related(Instruction one) {
        int x = variables[one.a];
        int y = variables[one.b];
        int unsigned = Integer.compareUnsigned(x, y);
        int signed = Integer.compare(x, y);
        return switch (one.code) {
            case 0 -> x == y;
            case 1 -> x != y;
            case 2 -> unsigned >= 0;
            case 3 -> unsigned < 0;
            case 8 -> unsigned > 0;
            case 9 -> unsigned <= 0;
            case 10 -> signed >= 0;
            case 11 -> signed < 0;
            case 12 -> signed > 0;
            default -> signed <= 0;
        };
    }

    // The image.

    /** How many halfwords instruction i has, told without writing them. */
    private int sizeOf(int i) {
        Instruction one = program.get(i);
        int a = one.a >= 4 ? 1 : 0;
        int b = one.b >= 4 ? 1 : 0;
        int d = one.d >= 4 ? 1 : 0;
        return switch (one.kind) {
            case CONSTANT -> d + (isSmall(one.number) || needsLiteral(one.number) ? 1 : 2);
            case COMPUTE -> one.code < 2 ? a + b + 1 + d : 1 + b + 1 + 1;
            case LOAD -> a + 4 + d;
            case STORE -> a + 3 + b + 1;
            case BRANCH -> a + b + (longOnes.contains(i) ? 3 : 2);
            case OUT -> 2;
            case JUMP, END, TRAP -> 1;
        };
    }

    private void layOut() {
        places = new ArrayList<>();
        int place = 1;
        for (int i = 0; i < program.size(); i++) {
            places.add(place);
            place += sizeOf(i);
        }
        places.add(place);
    }

    /** A short branch that does not reach, or -1. */
    private int tooFar() {
        for (int i = 0; i < program.size(); i++) {
            if (program.get(i).kind == Kind.BRANCH && !longOnes.contains(i)) {
                int d = places.get(program.get(i).number) - (places.get(i + 1) - 1) - 2;
                if (d < -128 || d > 127) {
                    return i;
                }
            }
        }
        return -1;
    }

    private List<Integer> image() {
        List<Integer> all = new ArrayList<>();
        all.add(literal(3, 536870912, 0));
        for (int i = 0; i < program.size(); i++) {
            addInstruction(all, i, program.get(i));
        }
        if (all.size() % 2 == 1) {
            all.add(0);
        }
        for (int number : numbersOfPool()) {
            all.add(Math.floorMod(number, 65536));
            all.add(Math.floorMod(Math.floorDiv(number, 65536), 65536));
        }
        return all;
    }

    private List<Integer> numbersOfPool() {
        List<Integer> all = new ArrayList<>(List.of(536870912));
        for (Instruction one : program) {
            if (one.kind == Kind.CONSTANT && needsLiteral(one.number) && !all.contains(one.number)) {
                all.add(one.number);
            }
        }
        return all;
    }

    private int literal(int z, int number, int place) {
        int codeEnd = places.get(program.size());
        int pool = codeEnd % 2 == 0 ? codeEnd : codeEnd + 1;
        int address = 2 * pool + 4 * numbersOfPool().indexOf(number);
        int base = 2 * place + 4;
        if (base % 4 != 0) {
            base -= 2;
        }
        return 18432 + 256 * z + (address - base) / 4;
    }

    private void addInstruction(List<Integer> all, int i, Instruction one) {
        int z = one.d < 4 ? 4 + one.d : 0;
        switch (one.kind) {
            case CONSTANT -> {
                make(all, one.number, z);
                keep(all, one.d);
            }
            case COMPUTE -> addCompute(all, one, z);
            case LOAD -> {
                addWord(all, one.a);
                all.add(22528 + 64 + 24 + z);
                keep(all, one.d);
            }
            case STORE -> {
                addWord(all, one.a);
                int y = fetch(all, one.b, 0);
                all.add(20480 + 64 + 24 + y);
            }
            case JUMP -> addJump(all, one.number);
            case BRANCH -> {
                int x = fetch(all, one.a, 0);
                int y = fetch(all, one.b, 1);
                all.add(17024 + 8 * y + x);
                if (longOnes.contains(i)) {
                    all.add(53248 + 256 * (one.code % 2 == 0 ? one.code + 1 : one.code - 1));
                    addJump(all, one.number);
                } else {
                    all.add(53248 + 256 * one.code + Math.floorMod(places.get(one.number) - all.size() - 2, 256));
                }
            }
            case OUT -> {
                moveTo0(all, one.a);
                all.add(57088);
            }
            case END -> all.add(57089);
            case TRAP -> all.add(56832 + one.number);
        }
    }

    private static void addCompute(List<Integer> all, Instruction one, int z) {
        if (one.code <= 1) {
            int x = fetch(all, one.a, 0);
            int y = fetch(all, one.b, 1);
            all.add((one.code == 0 ? 6144 : 6656) + 64 * y + 8 * x + z);
            keep(all, one.d);
            return;
        }
        moveTo0(all, one.a);
        int y = fetch(all, one.b, 1);
        all.add(List.of(17216, 16384, 17152, 16448, 16512, 16576).get(one.code - 2) + 8 * y);
        if (one.d < 4) {
            all.add(z);
        } else {
            keep(all, one.d);
        }
    }

    private static void addWord(List<Integer> all, int a) {
        int x = fetch(all, a, 0);
        all.addAll(List.of(8455, 16385 + 8 * x, 137));
    }

    private void addJump(List<Integer> all, int t) {
        all.add(57344 + Math.floorMod(places.get(t) - all.size() - 2, 2048));
    }

    private void make(List<Integer> all, int k, int z) {
        if (isSmall(k)) {
            all.add(8192 + 256 * z + k);
        } else if (isSmallTurnedRound(k)) {
            all.addAll(List.of(8192 + 256 * z + (-1 - k), 17344 + 9 * z));
        } else if (shiftOf(k) > 0) {
            all.addAll(List.of(8192 + 256 * z + (int) (Integer.toUnsignedLong(k) >> shiftOf(k)), 64 * shiftOf(k) + 9 * z));
        } else {
            all.add(literal(z, k, all.size()));
        }
    }

    private static boolean isSmall(int k) {
        return k >= 0 && k <= 255;
    }

    private static boolean isSmallTurnedRound(int k) {
        return k >= -256 && k <= -1;
    }

    private static boolean needsLiteral(int k) {
        return !isSmall(k) && !isSmallTurnedRound(k) && shiftOf(k) == 0;
    }

    /** Tries every m with every s. */
    private static int shiftOf(int k) {
        for (int s = 1; s <= 24; s++) {
            for (long m = 1; m <= 255; m++) {
                if (m << s == Integer.toUnsignedLong(k)) {
                    return s;
                }
            }
        }
        return 0;
    }

    private static int fetch(List<Integer> all, int a, int r) {
        if (a < 4) {
            return 4 + a;
        }
        all.add(38912 + 256 * r + a - 4);
        return r;
    }

    private static void moveTo0(List<Integer> all, int a) {
        if (a < 4) {
            all.add(8 * (4 + a));
        } else {
            fetch(all, a, 0);
        }
    }

    private static void keep(List<Integer> all, int d) {
        if (d >= 4) {
            all.add(36864 + d - 4);
        }
    }
}
