import java.util.Arrays;
import java.util.Random;

/**
 * Terms, for promise 11: "A branch is LONG if it must be: the long ones are the fewest (as a set) for which D is
 * -128 .. 127 at each short one."
 */
public final class ReachTest {
    private static final int[] RELATIONS = Forges.RELATIONS;

    private final Checks checks = new Checks();

    public static void main(String[] args) {
        ReachTest test = new ReachTest();
        test.forwardEdge();
        test.backwardEdge();
        test.edgesWithFetches();
        test.longHalfwords();
        test.oneLongBranchMakesAnotherLong();
        test.twoThatCouldBothBeLong();
        test.twoThatMustBothBeLong();
        test.whatItselfIsLongerDoesNotCount();
        test.longBranchesMoveThePool();
        test.aChainOfLongBranches();
        test.longBranchesOfAnOldImageAreForgotten();
        for (int seed = 0; seed < 400; seed++) {
            test.fewestOfAllSets(new Random(seed));
        }
        test.checks.finish();
    }

    /** Appends instructions of so many halfwords in all. */
    private static void fill(ThumbForge forge, int halfwords) {
        int left = halfwords;
        for (; left >= 6; left -= 6) {
            forge.store(4, 5);
        }
        for (; left > 0; left--) {
            forge.stop(left);
        }
    }

    private static int lengthOf(ThumbForge forge, int i) {
        return forge.place(i + 1) - forge.place(i);
    }

    private void forwardEdge() {
        checks.same("126 on", lengthOf(forward(127), 0), 2);
        checks.same("126 on, its halfword", forward(127).halfword(2), 53248 + 126);
        checks.same("127 on", lengthOf(forward(128), 0), 2);
        checks.same("127 on, its halfword", forward(128).halfword(2), 53248 + 127);
        checks.same("128 on", lengthOf(forward(129), 0), 3);
        checks.same("128 on, turned round", forward(129).halfword(2), 53248 + 256);
        checks.same("128 on, the jump", forward(129).halfword(3), 57344 + 128);
        checks.same("129 on", lengthOf(forward(130), 0), 3);
        checks.same("129 on, the jump", forward(130).halfword(3), 57344 + 129);
    }

    private static ThumbForge forward(int between) {
        return forward(0, 1, between);
    }

    private static ThumbForge forward(int a, int b, int between) {
        ThumbForge forge = new ThumbForge();
        int fillers = between / 6 + between % 6;
        forge.branch(0, a, b, fillers + 1);
        fill(forge, between);
        forge.stop(-1);
        forge.forge();
        return forge;
    }

    private void backwardEdge() {
        checks.same("127 back", lengthOf(backward(124), 24), 2);
        checks.same("127 back, its halfword", backward(124).halfword(126), 53248 + 129);
        checks.same("128 back", lengthOf(backward(125), 25), 2);
        checks.same("128 back, its halfword", backward(125).halfword(127), 53248 + 128);
        checks.same("129 back", lengthOf(backward(126), 21), 3);
        checks.same("129 back, turned round", backward(126).halfword(128), 53248 + 256);
        checks.same("129 back, the jump", backward(126).halfword(129), 57344 + 2048 - 130);
        checks.same("130 back", lengthOf(backward(127), 22), 3);
    }

    private static ThumbForge backward(int between) {
        return backward(0, 1, between);
    }

    private static ThumbForge backward(int a, int b, int between) {
        ThumbForge forge = new ThumbForge();
        fill(forge, between);
        forge.branch(0, a, b, 0);
        forge.stop(-1);
        forge.forge();
        return forge;
    }

    /** D is counted from the branch's own halfword: what it fetches lies in front of it. */
    private void edgesWithFetches() {
        int[][] fetched = {{0, 4, 1}, {4, 0, 1}, {4, 7, 2}};
        for (int[] one : fetched) {
            int a = one[0];
            int b = one[1];
            int more = one[2];
            String what = " with variables " + a + " and " + b;
            checks.same("127 on" + what, lengthOf(forward(a, b, 128), 0), 2 + more);
            checks.same("128 on" + what, lengthOf(forward(a, b, 129), 0), 3 + more);
            int inside = 125 - more;
            int outside = 126 - more;
            checks.same("128 back" + what, lengthOf(backward(a, b, inside), inside / 6 + inside % 6), 2 + more);
            checks.same("129 back" + what, lengthOf(backward(a, b, outside), outside / 6 + outside % 6), 3 + more);
        }
    }

    private void longHalfwords() {
        int[] turned = {1, 0, 3, 2, 9, 8, 11, 10, 13, 12};
        for (int i = 0; i < RELATIONS.length; i++) {
            ThumbForge forge = new ThumbForge();
            forge.branch(RELATIONS[i], 2, 7, 31);
            fill(forge, 180);
            forge.branch(RELATIONS[i], 6, 3, 0);
            forge.stop(-1);
            forge.forge();
            String what = "relation " + RELATIONS[i];
            checks.same(what + ", fetch", forge.halfword(1), 38912 + 256 + 3);
            checks.same(what + ", compare", forge.halfword(2), 17024 + 8 + 6);
            checks.same(what + ", turned round", forge.halfword(3), 53248 + 256 * turned[i]);
            checks.same(what + ", on", forge.halfword(4), 57344 + 185 - 4 - 2);
            checks.same(what + ", place", forge.place(31), 185);
            checks.same(what + ", turned round, back", forge.halfword(187), 53248 + 256 * turned[i]);
            checks.same(what + ", back", forge.halfword(188), 57344 + 2048 + 1 - 188 - 2);
            checks.same(what + ", END", forge.place(32), 189);
        }
    }

    private void oneLongBranchMakesAnotherLong() {
        checks.same("alone it reaches", lengthOf(twoBranches(true), 0), 2);
        checks.same("the inner one is short", lengthOf(twoBranches(true), 1), 2);
        checks.same("the inner one is long", lengthOf(twoBranches(false), 1), 3);
        checks.same("so the outer one is", lengthOf(twoBranches(false), 0), 3);
    }

    /** Branch 0 reaches just so if branch 1 is short; branch 1 is long if its target is the END. */
    private static ThumbForge twoBranches(boolean innerNear) {
        ThumbForge forge = new ThumbForge();
        forge.branch(0, 0, 1, 23);
        forge.branch(0, 0, 1, innerNear ? 1 : 26);
        fill(forge, 126);
        forge.store(4, 5);
        forge.store(4, 5);
        forge.store(4, 5);
        forge.stop(-1);
        forge.forge();
        return forge;
    }

    /** Each reaches just so over the other: all long would do as well, but both short are fewer. */
    private void twoThatCouldBothBeLong() {
        ThumbForge forge = crossing(0);
        checks.same("on", lengthOf(forge, 1), 2);
        checks.same("back", lengthOf(forge, 22), 2);
        checks.same("on, its halfword", forge.halfword(forge.place(2) - 1), 53248 + 127);
        checks.same("back, its halfword", forge.halfword(forge.place(23) - 1), 53248 + 128);
    }

    /** One halfword more between them: then neither reaches. */
    private void twoThatMustBothBeLong() {
        ThumbForge forge = crossing(1);
        checks.same("on", lengthOf(forge, 1), 3);
        checks.same("back", lengthOf(forge, 23), 3);
    }

    /** Three halfwords, a branch on, 20 times six halfwords, a branch back, six halfwords. */
    private static ThumbForge crossing(int more) {
        ThumbForge forge = new ThumbForge();
        forge.compute(2, 0, 0, 0);
        forge.branch(0, 0, 1, 24 + more);
        for (int i = 0; i < 20; i++) {
            forge.store(4, 5);
        }
        for (int i = 0; i < more; i++) {
            forge.stop(3);
        }
        forge.branch(0, 0, 1, 0);
        forge.store(4, 5);
        forge.stop(-1);
        forge.forge();
        return forge;
    }

    /** Were it long, its target would be one farther; but short it reaches, so it is short. */
    private void whatItselfIsLongerDoesNotCount() {
        ThumbForge forge = forward(128);
        checks.same("just reaches", lengthOf(forge, 0), 2);
        checks.same("the END", forge.place(Look.places(forge).length - 1), 131);
    }

    /** A long branch makes the code one longer: odd becomes even, and the literals are nearer or farther. */
    private void longBranchesMoveThePool() {
        for (int more = 0; more < 2; more++) {
            ThumbForge forge = new ThumbForge();
            forge.constant(0, 70001);
            forge.branch(0, 0, 1, 23 + more);
            fill(forge, 126 + more);
            forge.constant(1, 70003);
            forge.stop(-1);
            // The literal, the constant, a short branch, the filler, the constant and the END.
            int code = 1 + 1 + 2 + 126 + more + 1 + 1;
            checks.same("length, " + more, forge.forge(), code + code % 2 + 6);
            checks.same("the first literal", forge.halfword(1) & 255, (code + code % 2 + 2 - 2) / 2);
        }
        ThumbForge odd = new ThumbForge();
        odd.constant(0, 70001);
        odd.branch(0, 0, 1, 24);
        fill(odd, 132);
        odd.constant(1, 70003);
        odd.stop(-1);
        checks.same("length with a long one", odd.forge(), 1 + 1 + 3 + 132 + 2 + 1 + 6);
        checks.same("the halfword 0", odd.halfword(139), 0);
        checks.same("the first literal", odd.halfword(1) & 255, (140 + 2 - 2) / 2);
        checks.same("the second literal", odd.halfword(137) & 255, (140 + 4 - 138) / 2);
    }

    /** Branch i may have 14 - i long ones behind it, so each one that becomes long pushes out just one more. */
    private void aChainOfLongBranches() {
        ThumbForge all = chain(45);
        ThumbForge none = chain(44);
        for (int i = 0; i < 16; i++) {
            checks.same("branch " + i + " of the chain", lengthOf(all, i), 3);
            checks.same("branch " + i + " without the push", lengthOf(none, i), 2);
        }
    }

    private static ThumbForge chain(int lastTarget) {
        ThumbForge forge = new ThumbForge();
        for (int i = 0; i < 15; i++) {
            forge.branch(0, 0, 1, 30 + i);
        }
        forge.branch(0, 0, 1, lastTarget);
        fill(forge, 84);
        for (int i = 0; i < 16; i++) {
            forge.compute(2, 0, 0, 0);
        }
        forge.stop(-1);
        forge.forge();
        return forge;
    }

    private void longBranchesOfAnOldImageAreForgotten() {
        ThumbForge forge = forward(140);
        checks.same("long at first", lengthOf(forge, 0), 3);
        forge.clear();
        forge.branch(0, 0, 1, 1);
        forge.stop(-1);
        forge.forge();
        checks.same("short in the new program", lengthOf(forge, 0), 2);
    }

    /** Looks through all sets of branches for those that reach, from the places of the image alone. */
    private void fewestOfAllSets(Random random) {
        ThumbForge forge = new ThumbForge();
        int count = 40 + random.nextInt(9);
        int branches = 2 + random.nextInt(8);
        boolean[] isBranch = new boolean[count];
        for (int i = 0; i < branches; i++) {
            isBranch[random.nextInt(count - 1)] = true;
        }
        int[] targets = new int[count];
        int[] shortLengths = new int[count];
        append(forge, isBranch, targets, random);
        forge.forge();

        int[] numbers = numbersOf(isBranch);
        int got = 0;
        for (int i = 0; i < count - 1; i++) {
            shortLengths[i] = lengthOf(forge, i);
        }
        for (int i = 0; i < numbers.length; i++) {
            int n = numbers[i];
            boolean endsWithAJump = forge.halfword(forge.place(n + 1) - 1) >= 57344;
            if (endsWithAJump) {
                got |= 1 << i;
                shortLengths[n]--;
            }
        }
        int best = fewest(numbers, targets, shortLengths);
        checks.same("the long ones of " + count + " instructions", got, best);
    }

    private static void append(ThumbForge forge, boolean[] isBranch, int[] targets, Random random) {
        int count = isBranch.length;
        for (int i = 0; i < count - 1; i++) {
            if (isBranch[i]) {
                targets[i] = Math.max(0, Math.min(count - 1, i + (random.nextBoolean() ? 1 : -1) * (18 + random.nextInt(12))));
                forge.branch(RELATIONS[random.nextInt(10)], random.nextInt(8), random.nextInt(8), targets[i]);
            } else if (random.nextInt(8) == 0) {
                forge.compute(random.nextInt(8), random.nextInt(8), random.nextInt(8), random.nextInt(8));
            } else {
                forge.store(4 + random.nextInt(4), 4 + random.nextInt(4));
            }
        }
        forge.stop(-1);
    }

    private static int[] numbersOf(boolean[] isBranch) {
        int[] numbers = new int[isBranch.length];
        int found = 0;
        for (int i = 0; i < isBranch.length; i++) {
            if (isBranch[i]) {
                numbers[found++] = i;
            }
        }
        return Arrays.copyOf(numbers, found);
    }

    private static int fewest(int[] numbers, int[] targets, int[] shortLengths) {
        int best = -1;
        for (int set = 0; set < 1 << numbers.length; set++) {
            boolean fewer = best < 0 || Integer.bitCount(set) < Integer.bitCount(best);
            if (fewer && allReach(set, numbers, targets, shortLengths)) {
                best = set;
            }
        }
        return best;
    }

    private static boolean allReach(int set, int[] numbers, int[] targets, int[] shortLengths) {
        int[] lengths = shortLengths.clone();
        for (int i = 0; i < numbers.length; i++) {
            lengths[numbers[i]] += set >>> i & 1;
        }
        int[] places = new int[lengths.length + 1];
        places[0] = 1;
        for (int i = 0; i < lengths.length; i++) {
            places[i + 1] = places[i] + lengths[i];
        }
        for (int i = 0; i < numbers.length; i++) {
            int n = numbers[i];
            int distance = places[targets[n]] - (places[n + 1] - 1) - 2;
            if ((set >>> i & 1) == 0 && (distance < -128 || distance > 127)) {
                return false;
            }
        }
        return true;
    }
}
