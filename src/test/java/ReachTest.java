import java.util.Arrays;
import java.util.Random;

/** Promise 11: the long branches are the fewest for which each short one reaches. */
public final class ReachTest {
    private static final int[] RELATIONS = {0, 1, 2, 3, 8, 9, 10, 11, 12, 13};

    private final Checks checks = new Checks();

    public static void main(String[] args) {
        ReachTest test = new ReachTest();
        test.forwardEdge();
        test.backwardEdge();
        test.longHalfwords();
        test.oneLongBranchMakesAnotherLong();
        test.aChainOfLongBranches();
        test.longBranchesOfAnOldImageAreForgotten();
        for (int seed = 0; seed < 400; seed++) {
            test.fewestOfAllSets(new Random(seed));
        }
        test.checks.finish();
    }

    /** Appends instructions of so many halfwords in all. */
    private static void fill(ThumbForge forge, int halfwords) {
        int left = halfwords;
        for (; left >= 6; left -= 6) {
            forge.store(4, 5);
        }
        for (; left > 0; left--) {
            forge.stop(left);
        }
    }

    private static int lengthOf(ThumbForge forge, int i) {
        return forge.place(i + 1) - forge.place(i);
    }

    private void forwardEdge() {
        checks.same("127 on", lengthOf(forward(128), 0), 2);
        checks.same("127 on, its halfword", forward(128).halfword(2), 53248 + 127);
        checks.same("128 on", lengthOf(forward(129), 0), 3);
    }

    private static ThumbForge forward(int between) {
        ThumbForge forge = new ThumbForge();
        int fillers = between / 6 + between % 6;
        forge.branch(0, 0, 1, fillers + 1);
        fill(forge, between);
        forge.stop(-1);
        forge.forge();
        return forge;
    }

    private void backwardEdge() {
        checks.same("128 back", lengthOf(backward(125), 25), 2);
        checks.same("128 back, its halfword", backward(125).halfword(127), 53248 + 128);
        checks.same("129 back", lengthOf(backward(126), 21), 3);
    }

    private static ThumbForge backward(int between) {
        ThumbForge forge = new ThumbForge();
        fill(forge, between);
        forge.branch(0, 0, 1, 0);
        forge.stop(-1);
        forge.forge();
        return forge;
    }

    private void longHalfwords() {
        int[] turned = {1, 0, 3, 2, 9, 8, 11, 10, 13, 12};
        for (int i = 0; i < RELATIONS.length; i++) {
            ThumbForge forge = new ThumbForge();
            forge.branch(RELATIONS[i], 2, 7, 31);
            fill(forge, 180);
            forge.branch(RELATIONS[i], 6, 3, 0);
            forge.stop(-1);
            forge.forge();
            String what = "relation " + RELATIONS[i];
            checks.same(what + ", fetch", forge.halfword(1), 38912 + 256 + 3);
            checks.same(what + ", compare", forge.halfword(2), 17024 + 8 + 6);
            checks.same(what + ", turned round", forge.halfword(3), 53248 + 256 * turned[i]);
            checks.same(what + ", on", forge.halfword(4), 57344 + 185 - 4 - 2);
            checks.same(what + ", place", forge.place(31), 185);
            checks.same(what + ", turned round, back", forge.halfword(187), 53248 + 256 * turned[i]);
            checks.same(what + ", back", forge.halfword(188), 57344 + 2048 + 1 - 188 - 2);
            checks.same(what + ", END", forge.place(32), 189);
        }
    }

    private void oneLongBranchMakesAnotherLong() {
        checks.same("alone it reaches", lengthOf(twoBranches(true), 0), 2);
        checks.same("the inner one is short", lengthOf(twoBranches(true), 1), 2);
        checks.same("the inner one is long", lengthOf(twoBranches(false), 1), 3);
        checks.same("so the outer one is", lengthOf(twoBranches(false), 0), 3);
    }

    /** Branch 0 reaches just so if branch 1 is short; branch 1 is long if its target is the END. */
    private static ThumbForge twoBranches(boolean innerNear) {
        ThumbForge forge = new ThumbForge();
        forge.branch(0, 0, 1, 23);
        forge.branch(0, 0, 1, innerNear ? 1 : 26);
        fill(forge, 126);
        forge.store(4, 5);
        forge.store(4, 5);
        forge.store(4, 5);
        forge.stop(-1);
        forge.forge();
        return forge;
    }

    /** Branch i may have 14 - i long ones behind it, so each one that becomes long pushes out just one more. */
    private void aChainOfLongBranches() {
        ThumbForge all = chain(45);
        ThumbForge none = chain(44);
        for (int i = 0; i < 16; i++) {
            checks.same("branch " + i + " of the chain", lengthOf(all, i), 3);
            checks.same("branch " + i + " without the push", lengthOf(none, i), 2);
        }
    }

    private static ThumbForge chain(int lastTarget) {
        ThumbForge forge = new ThumbForge();
        for (int i = 0; i < 15; i++) {
            forge.branch(0, 0, 1, 30 + i);
        }
        forge.branch(0, 0, 1, lastTarget);
        fill(forge, 84);
        for (int i = 0; i < 16; i++) {
            forge.compute(2, 0, 0, 0);
        }
        forge.stop(-1);
        forge.forge();
        return forge;
    }

    private void longBranchesOfAnOldImageAreForgotten() {
        ThumbForge forge = forward(140);
        checks.same("long at first", lengthOf(forge, 0), 3);
        forge.clear();
        forge.branch(0, 0, 1, 1);
        forge.stop(-1);
        forge.forge();
        checks.same("short in the new program", lengthOf(forge, 0), 2);
    }

    /** Looks through all sets of branches for those that reach, from the places of the image alone. */
    private void fewestOfAllSets(Random random) {
        ThumbForge forge = new ThumbForge();
        int count = 40 + random.nextInt(9);
        int branches = 2 + random.nextInt(8);
        boolean[] isBranch = new boolean[count];
        for (int i = 0; i < branches; i++) {
            isBranch[random.nextInt(count - 1)] = true;
        }
        int[] targets = new int[count];
        int[] shortLengths = new int[count];
        append(forge, isBranch, targets, random);
        forge.forge();

        int[] numbers = numbersOf(isBranch);
        int got = 0;
        for (int i = 0; i < count - 1; i++) {
            shortLengths[i] = lengthOf(forge, i);
        }
        for (int i = 0; i < numbers.length; i++) {
            int n = numbers[i];
            boolean endsWithAJump = forge.halfword(forge.place(n + 1) - 1) >= 57344;
            if (endsWithAJump) {
                got |= 1 << i;
                shortLengths[n]--;
            }
        }
        int best = fewest(numbers, targets, shortLengths);
        checks.same("the long ones of " + count + " instructions", got, best);
    }

    private static void append(ThumbForge forge, boolean[] isBranch, int[] targets, Random random) {
        int count = isBranch.length;
        for (int i = 0; i < count - 1; i++) {
            if (isBranch[i]) {
                targets[i] = Math.max(0, Math.min(count - 1, i + (random.nextBoolean() ? 1 : -1) * (18 + random.nextInt(12))));
                forge.branch(RELATIONS[random.nextInt(10)], random.nextInt(8), random.nextInt(8), targets[i]);
            } else if (random.nextInt(8) == 0) {
                forge.compute(random.nextInt(8), random.nextInt(8), random.nextInt(8), random.nextInt(8));
            } else {
                forge.store(4 + random.nextInt(4), 4 + random.nextInt(4));
            }
        }
        forge.stop(-1);
    }

    private static int[] numbersOf(boolean[] isBranch) {
        int[] numbers = new int[isBranch.length];
        int found = 0;
        for (int i = 0; i < isBranch.length; i++) {
            if (isBranch[i]) {
                numbers[found++] = i;
            }
        }
        return Arrays.copyOf(numbers, found);
    }

    private static int fewest(int[] numbers, int[] targets, int[] shortLengths) {
        int best = -1;
        for (int set = 0; set < 1 << numbers.length; set++) {
            boolean fewer = best < 0 || Integer.bitCount(set) < Integer.bitCount(best);
            if (fewer && allReach(set, numbers, targets, shortLengths)) {
                best = set;
            }
        }
        return best;
    }

    private static boolean allReach(int set, int[] numbers, int[] targets, int[] shortLengths) {
        int[] lengths = shortLengths.clone();
        for (int i = 0; i < numbers.length; i++) {
            lengths[numbers[i]] += set >>> i & 1;
        }
        int[] places = new int[lengths.length + 1];
        places[0] = 1;
        for (int i = 0; i < lengths.length; i++) {
            places[i + 1] = places[i] + lengths[i];
        }
        for (int i = 0; i < numbers.length; i++) {
            int n = numbers[i];
            int distance = places[targets[n]] - (places[n + 1] - 1) - 2;
            if ((set >>> i & 1) == 0 && (distance < -128 || distance > 127)) {
                return false;
            }
        }
        return true;
    }
}
