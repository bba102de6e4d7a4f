/** "An object is used for at most 512 calls after it has been made": up to the last of them all promises hold. */
public final class LifeTest {
    private static final int CALLS = 512;

    private final Checks checks = new Checks();

    public static void main(String[] args) {
        LifeTest test = new LifeTest();
        test.mostOutputs();
        test.manyPrograms();
        test.manyImages();
        test.manyStarts();
        test.manyRefusals();
        test.checks.finish();
    }

    /** 47 OUTs and a JUMP: no program puts out more with its halfwords. */
    private void mostOutputs() {
        ThumbForge forge = new ThumbForge();
        for (int i = 0; i < 47; i++) {
            forge.out(0);
        }
        forge.jump(0);
        forge.forge();
        forge.start();
        int calls = 50;
        long done = 0;
        while (calls < CALLS - 3) {
            done += forge.run(2000);
            calls++;
        }
        long due = done / 95 * 47 + done % 95 / 2;
        checks.same("outputs()", forge.outputs(), due);
        checks.same("the latest", forge.output((int) due - 1), 0);
        checks.throwsOn("the 17th latest, at call 512", Checks.NONE, forge, f -> f.output((int) due - 17));
    }

    private void manyPrograms() {
        ThumbForge forge = new ThumbForge();
        int calls = 0;
        while (calls + 50 <= CALLS) {
            for (int i = 0; i < 48; i++) {
                checks.same("number " + i + " at call " + calls, forge.store(4, 5), i);
            }
            checks.throwsOn("the 49th at call " + calls, Checks.STATE, forge, f -> f.store(4, 5));
            forge.clear();
            calls += 50;
        }
    }

    private void manyImages() {
        ThumbForge forge = new ThumbForge();
        for (int calls = 0; calls + 4 <= CALLS; calls += 4) {
            forge.constant(0, 100001 + calls);
            forge.stop(-1);
            checks.same("forge() at call " + calls, forge.forge(), 8);
            forge.clear();
        }
        ThumbForge again = new ThumbForge();
        again.constant(0, 100001);
        again.stop(-1);
        for (int calls = 2; calls < CALLS; calls++) {
            checks.same("forge() again at call " + calls, again.forge(), 8);
        }
    }

    private void manyStarts() {
        ThumbForge forge = new ThumbForge();
        forge.out(0);
        forge.stop(-1);
        forge.forge();
        for (int calls = 3; calls + 3 <= CALLS; calls += 3) {
            forge.start();
            checks.same("run at call " + calls, forge.run(2000), 3);
            checks.same("outputs at call " + calls, forge.outputs(), 1);
        }
    }

    private void manyRefusals() {
        ThumbForge forge = new ThumbForge();
        for (int calls = 0; calls < CALLS - 1; calls++) {
            checks.throwsOn("call " + calls, Checks.ARGUMENT, forge, f -> f.constant(8, 0));
        }
        checks.same("call 512", forge.constant(7, 0), 0);
    }
}
