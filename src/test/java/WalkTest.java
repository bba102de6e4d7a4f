import java.util.List;
import java.util.Random;

/**
 * Random calls, right and wrong ones mixed, in any order and up to an object's 512th: each answers
 * (or throws) what the model, a second and plainer writing of the document, does.
 */
public final class WalkTest {
    private static final int WALKS = 2000;
    private static final int CALLS = 512;

    private final Checks checks = new Checks();
    private int longBranches = 0;
    private int literals = 0;
    private int forged = 0;
    private int stopped = 0;
    private int forgotten = 0;

    private ThumbForge forge;
    private Model model;
    private Random random;
    private String what;
    /** One of so many calls is a wrong one. */
    private int wrongOnesIn;
    private int likedCount;
    private int count;
    private Taste taste;

    /** What the programs of a walk are mostly made of: left to chance alone, few would need a long branch or put out much. */
    private enum Taste { ANYTHING, LONG_CODE, MANY_OUTPUTS }

    public static void main(String[] args) {
        WalkTest test = new WalkTest();
        for (int seed = 0; seed < WALKS; seed++) {
            test.walk(seed);
        }
        test.checks.holds("enough of each kind was met: " + test.met(),
            test.longBranches > 1000 && test.literals > 1000 && test.forged > 1000 && test.stopped > 1000 && test.forgotten > 100);
        test.checks.finish();
    }

    private String met() {
        return longBranches + " long branches, " + literals + " literals, " + forged + " images, " + stopped + " ENDs and TRAPs, " + forgotten + " forgotten outputs";
    }

    private void walk(int seed) {
        forge = new ThumbForge();
        model = new Model();
        random = new Random(seed);
        wrongOnesIn = 4 + random.nextInt(40);
        taste = Taste.values()[random.nextInt(3)];
        likedCount = newCount();
        count = 0;
        for (int call = 1; call <= CALLS; call++) {
            what = "walk " + seed + ", call " + call + ": ";
            step();
        }
    }

    private void step() {
        int dice = random.nextInt(100);
        if (count < likedCount && dice < 80) {
            append();
        } else if (count == likedCount && dice < 20 && model.state() == 0) {
            finishProgram();
        } else if (dice < 45) {
            goOn();
        } else if (dice < 90) {
            look();
        } else if (dice < 92) {
            rarely();
        } else {
            useMemory();
        }
    }

    private int newCount() {
        return taste == Taste.LONG_CODE ? 36 + random.nextInt(13) : 1 + random.nextInt(48);
    }

    /** The kinds as append() numbers them. */
    private int kind() {
        if (taste == Taste.LONG_CODE && random.nextInt(3) != 0) {
            return 9;
        }
        if (taste == Taste.MANY_OUTPUTS && random.nextInt(3) != 0) {
            return 14;
        }
        return random.nextInt(16);
    }

    private void append() {
        int kind = kind();
        int d = variable();
        int a = variable();
        int b = variable();
        if (kind < 3) {
            constant(d, number());
        } else if (kind < 6) {
            compute(wrong() ? outside(7) : random.nextInt(8), d, a, b);
        } else if (kind < 8) {
            load(d, a);
        } else if (kind < 10) {
            store(a, b);
        } else if (kind < 11) {
            jump(target());
        } else if (kind < 14) {
            branch(relation(), a, b, target());
        } else if (kind < 15) {
            out(a);
        } else {
            stop(trap());
        }
    }

    private void finishProgram() {
        if (random.nextInt(8) == 0) {
            out(variable());
        } else if (random.nextBoolean()) {
            jump(taste == Taste.MANY_OUTPUTS ? 0 : target());
        } else {
            stop(trap());
        }
    }

    private void goOn() {
        boolean runsOn = model.state() == ThumbForge.RUNS && random.nextInt(8) != 0;
        switch (runsOn ? 2 : random.nextInt(5)) {
            case 0 -> {
                String due = told(model::forge);
                same("forge()", told(forge::forge), due);
                forged += due.startsWith("throws") ? 0 : 1;
                longBranches += model.longBranches();
                literals += model.literals();
            }
            case 1 -> same("start()", told(() -> none(forge::start)), told(() -> none(model::start)));
            default -> {
                int n = wrong() ? outside(2000) : random.nextInt(3) == 0 ? random.nextInt(2001) : random.nextInt(20);
                same("run(" + n + ")", told(() -> forge.run(n)), told(() -> model.run(n)));
                stopped += model.state() > 1 ? 1 : 0;
            }
        }
    }

    private void look() {
        switch (random.nextInt(8)) {
            case 0, 1 -> {
                int i = wrong() ? outside(387) : random.nextInt(1 + random.nextInt(300));
                same("halfword(" + i + ")", told(() -> forge.halfword(i)), told(() -> model.halfword(i)));
            }
            case 2 -> {
                int i = wrong() ? outside(47) : random.nextInt(49);
                same("place(" + i + ")", told(() -> forge.place(i)), told(() -> model.place(i)));
            }
            case 3 -> same("state()", told(forge::state), told(model::state));
            case 4 -> same("at()", told(forge::at), told(model::at));
            case 5 -> {
                int a = variable();
                same("variable(" + a + ")", told(() -> forge.variable(a)), told(() -> model.variable(a)));
            }
            case 6 -> same("outputs()", told(forge::outputs), told(model::outputs));
            default -> {
                int i = model.outputs() - 18 + random.nextInt(20);
                forgotten += i >= 0 && i < model.outputs() - 16 ? 1 : 0;
                same("output(" + i + ")", told(() -> forge.output(i)), told(() -> model.output(i)));
            }
        }
    }

    /** It takes the image away, or the whole program. */
    private void rarely() {
        if (random.nextBoolean()) {
            same("clear()", told(() -> none(forge::clear)), told(() -> none(model::clear)));
            count = 0;
            likedCount = newCount();
        } else {
            append();
        }
    }

    private void useMemory() {
        int x = variable();
        int v = number();
        if (random.nextBoolean()) {
            same("poke(" + x + ", " + v + ")", told(() -> none(() -> forge.poke(x, v))), told(() -> none(() -> model.poke(x, v))));
        } else {
            same("memory(" + x + ")", told(() -> forge.memory(x)), told(() -> model.memory(x)));
        }
    }

    private void constant(int d, int k) {
        appended("constant(" + d + ", " + k + ")", told(() -> forge.constant(d, k)),
            Model.Kind.CONSTANT, Model.areVariables(d), 0, d, 0, 0, k);
    }

    private void compute(int op, int d, int a, int b) {
        appended("compute(" + op + ", " + d + ", " + a + ", " + b + ")", told(() -> forge.compute(op, d, a, b)),
            Model.Kind.COMPUTE, Model.areVariables(d, a, b) && op >= 0 && op <= 7, op, d, a, b, 0);
    }

    private void load(int d, int a) {
        appended("load(" + d + ", " + a + ")", told(() -> forge.load(d, a)),
            Model.Kind.LOAD, Model.areVariables(d, a), 0, d, a, 0, 0);
    }

    private void store(int a, int b) {
        appended("store(" + a + ", " + b + ")", told(() -> forge.store(a, b)),
            Model.Kind.STORE, Model.areVariables(a, b), 0, 0, a, b, 0);
    }

    private void jump(int t) {
        appended("jump(" + t + ")", told(() -> forge.jump(t)),
            Model.Kind.JUMP, t >= 0 && t <= 47, 0, 0, 0, 0, t);
    }

    private void branch(int c, int a, int b, int t) {
        boolean right = List.of(0, 1, 2, 3, 8, 9, 10, 11, 12, 13).contains(c) && t >= 0 && t <= 47;
        appended("branch(" + c + ", " + a + ", " + b + ", " + t + ")", told(() -> forge.branch(c, a, b, t)),
            Model.Kind.BRANCH, right && Model.areVariables(a, b), c, 0, a, b, t);
    }

    private void out(int a) {
        appended("out(" + a + ")", told(() -> forge.out(a)),
            Model.Kind.OUT, Model.areVariables(a), 0, 0, a, 0, 0);
    }

    private void stop(int k) {
        appended("stop(" + k + ")", told(() -> forge.stop(k)),
            k == -1 ? Model.Kind.END : Model.Kind.TRAP, k >= -1 && k <= 255, 0, 0, 0, 0, k);
    }

    private void appended(String call, String got, Model.Kind kind, boolean right, int code, int d, int a, int b, int number) {
        String due = told(() -> model.append(new Model.Instruction(kind, code, d, a, b, number), right));
        same(call, got, due);
        if (!due.startsWith("throws")) {
            count = Integer.parseInt(due) + 1;
        }
    }

    private boolean wrong() {
        return random.nextInt(wrongOnesIn) == 0;
    }

    /** No number of 0 .. last, often one just beside them. */
    private int outside(int last) {
        int[] some = {-1, last + 1, -2, last + 2, Forges.LEAST, Forges.MOST};
        return some[random.nextInt(some.length)];
    }

    private int variable() {
        if (random.nextInt(3) == 0 && wrong()) {
            return outside(7);
        }
        return taste == Taste.LONG_CODE && random.nextInt(4) != 0 ? 4 + random.nextInt(4) : random.nextInt(8);
    }

    private int target() {
        return wrong() ? outside(47) : random.nextInt(30) == 0 ? random.nextInt(48) : random.nextInt(likedCount);
    }

    private int trap() {
        return wrong() ? (random.nextBoolean() ? -2 : 256) : random.nextBoolean() ? -1 : random.nextInt(256);
    }

    private int relation() {
        int[] none = {-1, 4, 5, 6, 7, 14, 15, 16};
        return wrong() ? none[random.nextInt(none.length)] : Forges.RELATIONS[random.nextInt(Forges.RELATIONS.length)];
    }

    private int number() {
        return switch (random.nextInt(6)) {
            case 0 -> random.nextBoolean() ? random.nextInt(8) : 29 + random.nextInt(5);
            case 1 -> random.nextInt(1024) - 512;
            case 2 -> (random.nextInt(300) - 10) << random.nextInt(32);
            case 3 -> 1000001 + random.nextInt(5);
            case 4 -> random.nextBoolean() ? Forges.LEAST : Forges.MOST;
            default -> random.nextInt();
        };
    }

    private interface Answer {
        int get();
    }

    private static int none(Runnable call) {
        call.run();
        return 0;
    }

    private static String told(Answer answer) {
        try {
            return String.valueOf(answer.get());
        } catch (RuntimeException thrown) {
            return "throws " + thrown.getClass().getName();
        }
    }

    private void same(String call, String got, String due) {
        checks.sameText(what + call, got, due);
    }
}
