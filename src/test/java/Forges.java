/**
 * The states in which calls are tried. Each maker answers a new object, always with the same calls,
 * so that two of its objects can be told apart only by what was done to one of them since.
 */
final class Forges {
    interface Maker {
        ThumbForge make();
    }

    interface Call {
        void on(ThumbForge forge);
    }

    interface Read {
        int at(ThumbForge forge, int i);
    }

    /** A maker with a name that a failing test can print. */
    record State(String name, Maker maker) {
    }

    static final int MOST_INSTRUCTIONS = 48;
    static final int LEAST = Integer.MIN_VALUE, MOST = Integer.MAX_VALUE;
    static final int[] RELATIONS = {0, 1, 2, 3, 8, 9, 10, 11, 12, 13};

    static final State[] WITH_ROOM = {
        new State("new", Forges::empty),
        new State("not whole", Forges::notWhole),
        new State("not forged", Forges::notForged),
        new State("forged", Forges::forged),
        new State("running", Forges::running),
        new State("ended", Forges::ended),
        new State("trapped", Forges::trapped),
        new State("one from full", () -> ofStops(MOST_INSTRUCTIONS - 1)),
    };
    static final State[] FULL = {
        new State("full, not forged", () -> ofStops(MOST_INSTRUCTIONS)),
        new State("full, not whole", Forges::fullNotWhole),
        new State("full, running", () -> run(ofStops(MOST_INSTRUCTIONS), 0)),
        new State("full, trapped", () -> run(ofStops(MOST_INSTRUCTIONS), 1)),
    };
    static final State[] WITHOUT_IMAGE = {WITH_ROOM[0], WITH_ROOM[1], WITH_ROOM[2], FULL[0], FULL[1], new State("cleared", Forges::cleared)};
    static final State[] MACHINE_OFF = {WITH_ROOM[0], WITH_ROOM[1], WITH_ROOM[2], WITH_ROOM[3], FULL[0], new State("forged again", Forges::forgedAgain)};
    static final State[] WITH_IMAGE = {WITH_ROOM[3], WITH_ROOM[4], WITH_ROOM[5], WITH_ROOM[6]};
    static final State[] STARTED = {WITH_ROOM[4], WITH_ROOM[5], WITH_ROOM[6], FULL[2], FULL[3]};

    static ThumbForge empty() {
        return new ThumbForge();
    }

    static ThumbForge notWhole() {
        ThumbForge forge = new ThumbForge();
        forge.poke(6, -66);
        forge.branch(13, 5, 0, 47);
        forge.constant(4, 70001);
        forge.out(4);
        return forge;
    }

    /** Puts out 1 .. 20 and stores each of them; 5 halfwords, then 10 for each number, then the stop. */
    static ThumbForge counting(int stop) {
        ThumbForge forge = new ThumbForge();
        forge.poke(0, 1000);
        forge.poke(7, LEAST);
        forge.constant(1, 1);
        forge.constant(7, 20);
        forge.constant(6, 70001);
        forge.compute(0, 0, 0, 1);
        forge.out(0);
        forge.store(0, 0);
        forge.branch(1, 0, 7, 3);
        forge.stop(stop);
        return forge;
    }

    static ThumbForge notForged() {
        return counting(-1);
    }

    static ThumbForge forged() {
        ThumbForge forge = counting(-1);
        forge.forge();
        return forge;
    }

    /** It has put out 18 numbers, of which 16 are kept. */
    static ThumbForge running() {
        return run(counting(-1), 185);
    }

    static ThumbForge ended() {
        return run(counting(-1), 2000);
    }

    static ThumbForge trapped() {
        return run(counting(200), 2000);
    }

    static ThumbForge forgedAgain() {
        ThumbForge forge = running();
        forge.forge();
        return forge;
    }

    static ThumbForge cleared() {
        ThumbForge forge = running();
        forge.clear();
        return forge;
    }

    /** TRAP 0, TRAP 1, .. */
    static ThumbForge ofStops(int count) {
        ThumbForge forge = new ThumbForge();
        for (int i = 0; i < count; i++) {
            forge.stop(i);
        }
        return forge;
    }

    static ThumbForge fullNotWhole() {
        ThumbForge forge = ofStops(MOST_INSTRUCTIONS - 1);
        forge.out(0);
        return forge;
    }

    static ThumbForge run(ThumbForge forge, int n) {
        forge.forge();
        forge.start();
        forge.run(n);
        return forge;
    }

    /** Forged and started. */
    static ThumbForge started(Call write) {
        ThumbForge forge = new ThumbForge();
        write.on(forge);
        forge.forge();
        forge.start();
        return forge;
    }

    /** Run to its END or TRAP. */
    static ThumbForge done(Call write) {
        ThumbForge forge = started(write);
        forge.run(2000);
        return forge;
    }

    private Forges() {
    }
}
