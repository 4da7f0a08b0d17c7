import java.util.function.Consumer;

/** Kernels as a call can find them, each with a way to go on from there that shows what is hidden. */
final class Stage {
    static final Stage NEW = new Stage("nothing is set up", k -> { }, Stage::goOnFromNothing);
    static final Stage NO_WINDOW = new Stage("there is no window", Stage::withoutWindows, Stage::goOnWithoutWindows);
    static final Stage SET_UP = new Stage("it is set up", Stage::setUp, Stage::goOnFromSetUp);
    static final Stage FULL = new Stage("there are 8 of all", Stage::fill, Stage::goOnFromFull);
    static final Stage BEGUN = new Stage("it has begun", Stage::begin, Stage::goOn);
    static final Stage RUNNING = new Stage("it has run", Stage::run, Stage::goOn);
    static final Stage STOPPED = new Stage("a partition is STOPPED", Stage::stop, Stage::goOn);

    private static final Stage[] ALL = {NEW, NO_WINDOW, SET_UP, FULL, BEGUN, RUNNING, STOPPED};
    private static final Stage[] AHEAD_OF_BEGIN = {NEW, NO_WINDOW, SET_UP, FULL};
    private static final Stage[] BEHIND_BEGIN = {BEGUN, RUNNING, STOPPED};

    final String name;
    private final Consumer<PartitionKernel> calls;
    private final Consumer<PartitionKernel> more;
    private int[] looks;
    private int[] laterLooks;

    private Stage(String name, Consumer<PartitionKernel> calls, Consumer<PartitionKernel> more) {
        this.name = name;
        this.calls = calls;
        this.more = more;
    }

    static Stage[] all() {
        return ALL.clone();
    }

    static Stage[] aheadOfBegin() {
        return AHEAD_OF_BEGIN.clone();
    }

    static Stage[] behindBegin() {
        return BEHIND_BEGIN.clone();
    }

    PartitionKernel kernel() {
        PartitionKernel k = new PartitionKernel();
        calls.accept(k);
        return k;
    }

    /** The call is refused; no look answers otherwise by it, neither at once nor when the kernel goes on. */
    void refuses(Check check, String call, Class<? extends RuntimeException> due, Consumer<PartitionKernel> does) {
        PartitionKernel k = kernel();
        String when = call + " when " + name;
        check.refuses(when, due, () -> does.accept(k));
        check.same(when + ": what changed", change(kernel -> Check.thrownBy(() -> does.accept(kernel))), "none");
    }

    /** "none", or the first look that calls in between made different, at once or when the kernel goes on. */
    String change(Consumer<PartitionKernel> between) {
        if (looks == null) {
            looks = Looks.behind(calls);
            laterLooks = Looks.behind(calls.andThen(more));
        }
        String atOnce = Looks.difference(Looks.behind(calls.andThen(between)), looks);
        if (!atOnce.equals("none")) {
            return atOnce;
        }
        return Looks.difference(Looks.behind(calls.andThen(between).andThen(more)), laterLooks);
    }

    /**
     * In each partition a process for each kind of error, and one that gives, sends twice, receives once
     * and adds the answers up in x20, so that full queues and samples of any age are seen.
     */
    private static void withoutWindows(PartitionKernel k) {
        int[] wrong = {0, Asm.load(2, 5, 0, 1), Asm.idle(), Asm.CALL};
        int[] add = Asm.words(Asm.registers(0, 0, 20, 20, 10));
        for (int p = 0; p < 4; p++) {
            for (int e = 0; e < 4; e++) {
                k.process(p, 32 * e, 4 + e, 0, e == 2 ? 90 : 0);
                Asm.place(k, p, 32 * e, Asm.li(17, 2), Asm.li(10, 80 + 30 * e), Asm.CALL, Asm.li(17, 10), wrong[e]);
                k.action(p, e, 2);
            }
            k.process(p, 256, 2, 30, 0);
            Asm.place(k, p, 256, Asm.join(Asm.call(7, p, 0), Asm.call(8, p, 70 + p), add, Asm.call(8, p, 80 + p), add,
                Asm.call(9, (p + 1) % 4, 0), add, Asm.words(Asm.jal(0, -76))));
        }
        k.channel(true, 0, 3, 4);
        k.channel(false, 1, 0, 9);
        k.channel(true, 2, 1, 8);
        k.channel(false, 3, 2, 0);
    }

    private static void setUp(PartitionKernel k) {
        withoutWindows(k);
        k.window(0, 9);
        k.window(1, 7);
        k.window(2, 8);
        k.window(3, 10);
    }

    private static void fill(PartitionKernel k) {
        setUp(k);
        for (int n = 0; n < 4; n++) {
            k.window(n, 1);
            k.channel(true, n, n, 3);
            for (int p = 0; p < 4 && n < 3; p++) {
                k.process(p, 256, 1, 0, 0);
            }
        }
    }

    private static void begin(PartitionKernel k) {
        setUp(k);
        k.begin();
    }

    private static void run(PartitionKernel k) {
        begin(k);
        k.run(437);
    }

    private static void stop(PartitionKernel k) {
        begin(k);
        k.run(450);
        k.action(1, 3, 4);
        k.run(437);
    }

    private static void goOnFromNothing(PartitionKernel k) {
        begin(k);
        goOn(k);
    }

    private static void goOnWithoutWindows(PartitionKernel k) {
        for (int p = 0; p < 3; p++) {
            k.window(p, 9);
        }
        goOnFromSetUp(k);
    }

    /** The numbers that are given next show whether a refused call took one. */
    private static void goOnFromSetUp(PartitionKernel k) {
        k.window(3, 3);
        for (int p = 0; p < 4; p++) {
            k.poke(p, 1016, k.process(p, 256, 1, 0, 0));
        }
        k.poke(0, 1012, k.channel(true, 0, 0, 2));
        goOnFromFull(k);
    }

    private static void goOnFromFull(PartitionKernel k) {
        k.begin();
        goOn(k);
    }

    private static void goOn(PartitionKernel k) {
        k.run(450);
    }
}
