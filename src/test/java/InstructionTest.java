import java.util.Arrays;

/** Terms, for promise 17: what the instructions do. Above each test stand the words that it holds. */
public final class InstructionTest {
    private static final int LEAST = Forges.LEAST, MOST = Forges.MOST;

    private final Checks checks = new Checks();

    public static void main(String[] args) {
        InstructionTest test = new InstructionTest();
        test.constants();
        test.numbersWrap();
        test.bits();
        test.shiftsTo31();
        test.shiftsFrom32On();
        test.shiftsByTheLowestEightBits();
        test.zerosComeIn();
        test.loads();
        test.stores();
        test.allWords();
        test.relationsOfNeighbours();
        test.relationsAtTheEnds();
        test.relationsOfAllPairs();
        test.takenOrElseBehind();
        test.jumps();
        test.allOthersGoOnBehind();
        test.sameVariableTwice();
        test.checks.finish();
    }

    // "CONSTANT d k: V(d) becomes k."; "all ints"
    private void constants() {
        int[] numbers = {0, 1, 255, 256, 257, 510, 511, -1, -256, -257, 0xff000000, 0xff800000, LEAST, MOST, LEAST + 1};
        for (int k : numbers) {
            for (int d = 0; d < 8; d++) {
                int variable = d;
                ThumbForge forge = Forges.done(f -> { f.constant(variable, k); f.stop(-1); });
                int[] due = new int[8];
                due[d] = k;
                checks.sameText("V(" + d + ") = " + k, Arrays.toString(Look.variables(forge)), Arrays.toString(due));
            }
        }
    }

    // "numbers wrap": the last results inside, the first outside.
    private void numbersWrap() {
        compute(0, MOST - 1, 1, MOST);
        compute(0, MOST, 1, LEAST);
        compute(0, MOST, MOST, -2);
        compute(0, LEAST + 1, -1, LEAST);
        compute(0, LEAST, -1, MOST);
        compute(0, LEAST, LEAST, 0);
        compute(1, LEAST + 1, 1, LEAST);
        compute(1, LEAST, 1, MOST);
        compute(1, MOST - 1, -1, MOST);
        compute(1, MOST, -1, LEAST);
        compute(1, 0, LEAST, LEAST);
        compute(1, 3, 5, -2);
        compute(2, 46340, 46340, 2147395600);
        compute(2, 46341, 46341, -2147479015);
        compute(2, 65536, 32767, 2147418112);
        compute(2, 65536, 32768, LEAST);
        compute(2, 65536, 65536, 0);
        compute(2, LEAST, -1, LEAST);
        compute(2, -3, 7, -21);
        compute(2, -1, -1, 1);
        compute(2, 123456789, 987654321, -67153019);
    }

    private void bits() {
        compute(3, 12, 10, 8);
        compute(3, -1, LEAST, LEAST);
        compute(4, 12, 10, 14);
        compute(4, LEAST, MOST, -1);
        compute(5, 12, 10, 6);
        compute(5, -1, 1, -2);
        compute(5, LEAST, LEAST, 0);
    }

    private void shiftsTo31() {
        compute(6, -3, 0, -3);
        compute(6, 3, 1, 6);
        compute(6, 3, 30, 0xc0000000);
        compute(6, 3, 31, LEAST);
        compute(6, 2, 31, 0);
        compute(7, -3, 0, -3);
        compute(7, 6, 1, 3);
        compute(7, -1, 30, 3);
        compute(7, -1, 31, 1);
        compute(7, MOST, 31, 0);
    }

    // "from 32 on the result is 0"
    private void shiftsFrom32On() {
        for (int op = 6; op < 8; op++) {
            for (int s : new int[] {32, 33, 63, 64, 65, 127, 128, 129, 224, 254, 255}) {
                compute(op, -1, s, 0);
            }
        }
    }

    // "s being the lowest eight bits of V(b) (0 .. 255 ..)"
    private void shiftsByTheLowestEightBits() {
        for (int more : new int[] {256, 512, 65536, LEAST, -256, 0x7fffff00}) {
            compute(6, 5, more, 5);
            compute(6, 5, more + 1, 10);
            compute(6, 5, more + 31, LEAST);
            compute(6, 5, more + 32, 0);
            compute(6, 5, more + 255, 0);
            compute(7, -5, more, -5);
            compute(7, -5, more + 1, 0x7ffffffd);
            compute(7, -5, more + 31, 1);
            compute(7, -5, more + 32, 0);
            compute(7, -5, more + 255, 0);
        }
        compute(6, 5, -1, 0);
        compute(7, 5, -1, 0);
        compute(6, 1, -255, 2);
        compute(7, 2, -255, 1);
    }

    // "7 shifted right by s with zeros coming in"
    private void zerosComeIn() {
        compute(7, -1, 1, MOST);
        compute(7, LEAST, 1, 1 << 30);
        compute(7, LEAST, 31, 1);
        compute(7, LEAST + 255, 8, 0x00800000);
    }

    /** In registers and slots, and into one of the two. */
    private void compute(int op, int x, int y, int due) {
        for (int shape = 0; shape < 8; shape++) {
            int a = (shape & 1) == 0 ? 1 : 5;
            int b = (shape & 2) == 0 ? 2 : 6;
            int d = (shape & 4) == 0 ? 3 : 7;
            checks.same(x + " op " + op + " " + y, computed(op, d, a, b, x, y), due);
        }
        checks.same(x + " op " + op + " " + y + " into the first", computed(op, 1, 1, 2, x, y), due);
        checks.same(x + " op " + op + " " + y + " into the second", computed(op, 6, 5, 6, x, y), due);
    }

    private int computed(int op, int d, int a, int b, int x, int y) {
        ThumbForge forge = Forges.done(f -> {
            f.constant(a, x);
            f.constant(b, y);
            f.compute(op, d, a, b);
            f.stop(-1);
        });
        checks.same("V(a) stays", a == d ? x : forge.variable(a), x);
        checks.same("V(b) stays", b == d ? y : forge.variable(b), y);
        return forge.variable(d);
    }

    private static final int[] WORDS_NAMED = {0, 1, 6, 7, 8, 9, 15, 16, 260, -1, -7, -8, -9, LEAST, LEAST + 7, MOST, MOST - 7};

    // "LOAD d a: V(d) becomes memory's word V(a) & 7."
    private void loads() {
        for (int x : WORDS_NAMED) {
            for (int a : new int[] {2, 6}) {
                for (int d : new int[] {0, 5, a}) {
                    ThumbForge forge = withWords();
                    forge.constant(a, x);
                    forge.load(d, a);
                    forge.stop(-1);
                    Forges.run(forge, 2000);
                    checks.same("loaded at " + x, forge.variable(d), 100 + low(x));
                    checks.sameText("memory stays", Arrays.toString(Look.memory(forge)), "[100, 101, 102, 103, 104, 105, 106, 107]");
                }
            }
        }
    }

    // "STORE a b: memory's word V(a) & 7 becomes V(b)."
    private void stores() {
        for (int x : WORDS_NAMED) {
            for (int a : new int[] {2, 6}) {
                for (int b : new int[] {0, 5}) {
                    ThumbForge forge = withWords();
                    forge.constant(a, x);
                    forge.constant(b, -9);
                    forge.store(a, b);
                    forge.stop(-1);
                    Forges.run(forge, 2000);
                    int[] due = {100, 101, 102, 103, 104, 105, 106, 107};
                    due[low(x)] = -9;
                    checks.sameText("stored at " + x, Arrays.toString(Look.memory(forge)), Arrays.toString(due));
                }
            }
        }
    }

    /** The rest that is 0 .. 7, told otherwise than by a mask. */
    private static int low(int x) {
        return Math.floorMod(x, 8);
    }

    private static ThumbForge withWords() {
        ThumbForge forge = new ThumbForge();
        for (int i = 0; i < 8; i++) {
            forge.poke(i, 100 + i);
        }
        return forge;
    }

    /** Every word takes and gives the least and the most. */
    private void allWords() {
        for (int x = 0; x < 8; x++) {
            int word = x;
            for (int v : new int[] {LEAST, -1, 0, MOST}) {
                ThumbForge forge = Forges.done(f -> {
                    f.constant(0, word);
                    f.constant(1, v);
                    f.store(0, 1);
                    f.load(4, 0);
                    f.stop(-1);
                });
                checks.same("word " + x, forge.memory(x), v);
                checks.same("loaded from word " + x, forge.variable(4), v);
            }
        }
    }

    // "0 equal, 1 not equal, 2 not less, 3 less, 8 greater, 9 not greater (these four as numbers without a sign),
    // 10 not less, 11 less, 12 greater, 13 not greater (with a sign)": equal, one less, one more.
    private void relationsOfNeighbours() {
        for (int x : new int[] {5, -5}) {
            relations(x, x, 0, 2, 9, 10, 13);
            relations(x, x + 1, 1, 3, 9, 11, 13);
            relations(x, x - 1, 1, 2, 8, 10, 12);
        }
    }

    /** Where the two orders differ: below 0, and past the most. */
    private void relationsAtTheEnds() {
        relations(-1, 0, 1, 2, 8, 11, 13);
        relations(0, -1, 1, 3, 9, 10, 12);
        relations(MOST, LEAST, 1, 3, 9, 10, 12);
        relations(LEAST, MOST, 1, 2, 8, 11, 13);
        relations(LEAST, -1, 1, 3, 9, 11, 13);
        relations(-1, LEAST, 1, 2, 8, 10, 12);
        relations(0, MOST, 1, 3, 9, 11, 13);
        relations(LEAST, 0, 1, 2, 8, 11, 13);
        relations(LEAST, LEAST, 0, 2, 9, 10, 13);
        relations(0, 0, 0, 2, 9, 10, 13);
    }

    private void relations(int x, int y, int... held) {
        for (int c : Forges.RELATIONS) {
            boolean due = false;
            for (int one : held) {
                due |= one == c;
            }
            relation(c, x, y, due);
        }
    }

    private void relationsOfAllPairs() {
        int[] numbers = {0, 1, 2, -1, -2, LEAST, LEAST + 1, MOST, MOST - 1};
        for (int x : numbers) {
            for (int y : numbers) {
                long left = x & 0xffffffffL;
                long right = y & 0xffffffffL;
                relation(0, x, y, x == y);
                relation(1, x, y, x != y);
                relation(2, x, y, left >= right);
                relation(3, x, y, left < right);
                relation(8, x, y, left > right);
                relation(9, x, y, left <= right);
                relation(10, x, y, x >= y);
                relation(11, x, y, x < y);
                relation(12, x, y, x > y);
                relation(13, x, y, x <= y);
            }
        }
    }

    private void relation(int c, int x, int y, boolean due) {
        for (int[] ab : new int[][] {{0, 7}, {6, 1}}) {
            ThumbForge forge = Forges.done(f -> {
                f.constant(ab[0], x);
                f.constant(ab[1], y);
                f.branch(c, ab[0], ab[1], 4);
                f.stop(0);
                f.stop(1);
            });
            checks.same(x + " relation " + c + " " + y, forge.state(), due ? 3 + 4 : 3);
        }
    }

    // "BRANCH c a b t: goes on at t if V(a) and V(b) are in the relation c, else behind"
    private void takenOrElseBehind() {
        for (int t = 0; t < 5; t++) {
            int target = t;
            ThumbForge taken = Forges.started(f -> { f.out(0); f.out(0); f.branch(0, 0, 1, target); f.out(0); f.stop(-1); });
            taken.run(6);
            checks.same("taken to " + t, taken.at(), t);
            ThumbForge behind = Forges.started(f -> { f.out(0); f.out(0); f.branch(1, 0, 1, target); f.out(0); f.stop(-1); });
            behind.run(6);
            checks.same("not taken to " + t, behind.at(), 3);
        }
    }

    // "JUMP t: goes on at instruction t."
    private void jumps() {
        for (int t = 0; t < 4; t++) {
            int target = t;
            ThumbForge forge = Forges.started(f -> { f.out(0); f.jump(target); f.out(0); f.stop(-1); });
            forge.run(3);
            checks.same("a jump to " + t, forge.at(), t);
        }
    }

    // "All others go on behind."
    private void allOthersGoOnBehind() {
        ThumbForge forge = Forges.started(f -> {
            f.constant(4, 5);
            f.compute(2, 5, 4, 4);
            f.load(6, 4);
            f.store(4, 4);
            f.out(4);
            f.stop(-1);
        });
        for (int i = 0; i < 5; i++) {
            checks.same("before " + i, forge.at(), i);
            forge.run(1);
        }
        checks.same("behind all", forge.at(), 5);
        checks.same("still runs", forge.state(), ThumbForge.RUNS);
    }

    private void sameVariableTwice() {
        for (int a : new int[] {0, 4}) {
            int[] due = {14, 0, 49, 7, 7, 0, 896, 0};
            for (int op = 0; op < 8; op++) {
                int code = op;
                ThumbForge forge = Forges.done(f -> { f.constant(a, 7); f.compute(code, a, a, a); f.stop(-1); });
                checks.same("7 op " + op + " 7", forge.variable(a), due[op]);
            }
            ThumbForge store = Forges.done(f -> { f.constant(a, 13); f.store(a, a); f.stop(-1); });
            checks.same("stored at itself", store.memory(5), 13);
            ThumbForge out = Forges.done(f -> { f.constant(a, 13); f.out(a); f.out(a); f.stop(-1); });
            checks.same("put out twice", out.output(1), 13);
        }
    }
}
