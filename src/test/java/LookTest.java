/** Promises 8 to 16: run, and what the calls that only look answer. */
final class LookTest {
    private static final Class<IllegalArgumentException> ARGUMENT = IllegalArgumentException.class;
    private static final Class<IllegalStateException> STATE = IllegalStateException.class;
    private static final Check CHECK = new Check("LookTest");
    private static final int[] FAR = {-1, 4, 8, Integer.MIN_VALUE, Integer.MAX_VALUE};

    public static void main(String[] args) {
        promise8Run();
        promise8Counts();
        promise9Peek();
        promise10Register();
        promise11StateAhead();
        promise11State();
        promise12Partition();
        promise12First();
        promise13Traffic();
        promise14Word();
        promise15Error();
        promise15Kept();
        promise16About();
        CHECK.finish();
    }

    /** Partition 0 alone, with one process of a program at 0. */
    private static PartitionKernel one(int... program) {
        PartitionKernel k = new PartitionKernel();
        k.process(0, 0, 5, 0, 0);
        k.window(0, 10);
        Asm.place(k, 0, 0, program);
        return k;
    }

    private static void promise8Run() {
        PartitionKernel k = one(Asm.idle());
        CHECK.refuses("run ahead of begin", STATE, () -> k.run(1));
        CHECK.refuses("run of 501 ahead of begin", STATE, () -> k.run(501));
        CHECK.refuses("run of -1 ahead of begin", STATE, () -> k.run(-1));
        k.begin();
        for (int n : new int[] {-1, 501, Integer.MIN_VALUE, Integer.MAX_VALUE}) {
            CHECK.refuses("run of " + n, ARGUMENT, () -> k.run(n));
        }
        CHECK.same("a refused run takes no time", k.about(0), 0);
        CHECK.same("run(0)", k.run(0), 0);
        CHECK.same("TIME", k.about(0), 0);
        CHECK.same("run(500)", k.run(500), 500);
        CHECK.same("TIME", k.about(0), 500);
        CHECK.same("run(1)", k.run(1), 1);
        CHECK.same("TIME", k.about(0), 501);
    }

    private static void promise8Counts() {
        PartitionKernel k = one(0, Asm.load(2, 1, 0, 1), Asm.li(1, 1), Asm.li(17, 0), Asm.CALL);
        k.window(1, 3);
        k.begin();
        CHECK.same("those that went wrong count", k.run(3), 3);
        CHECK.same("the rest of a window with none READY", k.run(7), 2);
        CHECK.same("a window of a partition with no process", k.run(3), 0);
        CHECK.same("all are DORMANT", k.run(13), 0);
        CHECK.same("instructions in all", k.about(2), 5);
        CHECK.same("its instructions", k.state(0, 0, 6), 5);
        CHECK.same("TIME", k.about(0), 26);
    }

    private static void promise9Peek() {
        PartitionKernel k = one(Asm.idle());
        k.poke(0, 0, 0x11223344);
        k.poke(0, 4, 0x55667788);
        k.poke(0, 1020, -5);
        k.poke(2, 1020, -7);
        CHECK.same("peek(0, 0)", k.peek(0, 0), 0x11223344);
        CHECK.same("peek(0, 4)", k.peek(0, 4), 0x55667788);
        CHECK.same("peek(0, 1020)", k.peek(0, 1020), -5);
        CHECK.same("peek(1, 1020)", k.peek(1, 1020), 0);
        CHECK.same("peek(2, 1020)", k.peek(2, 1020), -7);
        for (int place : new int[] {1, 2, 3, 5, -4, -1, 1021, 1023, 1024, Integer.MIN_VALUE, Integer.MAX_VALUE}) {
            CHECK.same("peek at " + place, k.peek(0, place), 0);
        }
        for (int p : FAR) {
            CHECK.same("peek of partition " + p, k.peek(p, 0), 0);
        }
    }

    private static void promise10Register() {
        int[] program = new int[32];
        for (int x = 0; x < 32; x++) {
            program[x] = Asm.li(x, 1000 + x);
        }
        PartitionKernel k = one(program);
        k.process(0, 0, 1, 0, 0);
        CHECK.same("ahead of begin", k.register(0, 0, 5), 0);
        k.begin();
        CHECK.same("behind begin", k.register(0, 0, 5), 0);
        k.run(32);
        CHECK.same("x0", k.register(0, 0, 0), 0);
        for (int x = 1; x < 32; x++) {
            CHECK.same("x" + x, k.register(0, 0, x), 1000 + x);
            CHECK.same("x" + x + " of the other", k.register(0, 1, x), 0);
        }
        for (int x : new int[] {-1, 32, 33, Integer.MIN_VALUE, Integer.MAX_VALUE}) {
            CHECK.same("x" + x, k.register(0, 0, x), 0);
        }
        for (int none : FAR) {
            CHECK.same("partition " + none, k.register(none, 0, 1), 0);
            CHECK.same("process " + none, k.register(0, none, 1), 0);
        }
        CHECK.same("another partition's process", k.register(1, 0, 1), 0);
    }

    private static void states(String when, PartitionKernel k, int process, int... due) {
        for (int what = 0; what < due.length; what++) {
            CHECK.same(when + ": state(0, " + process + ", " + what + ")", k.state(0, process, what), due[what]);
        }
    }

    private static void promise11StateAhead() {
        PartitionKernel k = new PartitionKernel();
        k.process(0, 64, 9, 50, 40);
        states("ahead of begin", k, 0, 0, 0, 9, -1, -1, -1, 0, 0);
        for (int what : new int[] {-1, 8, 9, Integer.MIN_VALUE, Integer.MAX_VALUE}) {
            CHECK.same("what " + what, k.state(0, 0, what), -1);
        }
        for (int what = -1; what < 9; what++) {
            for (int none : FAR) {
                CHECK.same("partition " + none, k.state(none, 0, what), -1);
                CHECK.same("process " + none, k.state(0, none, what), -1);
            }
            CHECK.same("process 1 of one", k.state(0, 1, what), -1);
            CHECK.same("process 0 of none", k.state(1, 0, what), -1);
        }
    }

    private static void promise11State() {
        PartitionKernel k = new PartitionKernel();
        k.process(0, 64, 9, 50, 40);
        k.window(0, 10);
        k.window(1, 10);
        Asm.place(k, 0, 64, Asm.join(Asm.call(2, 3, 0), Asm.call(6, 2, 0)));
        k.begin();
        states("begun", k, 0, 1, 64, 9, 40, -1, -1, 0, 0);
        k.run(4);
        states("waits for a time", k, 0, 2, 80, 9, 40, 6, -1, 4, 0);
        k.run(2);
        states("still waits", k, 0, 2, 80, 9, 40, 6, -1, 4, 0);
        k.run(4);
        states("waits for a semaphore", k, 0, 3, 96, 9, 40, -1, 2, 8, 0);
        PartitionKernel late = one(Asm.join(Asm.call(2, 100, 0), Asm.call(0, 0, 0)));
        late.begin();
        late.run(104);
        states("awake and at its work", late, 0, 1, 20, 5, -1, -1, -1, 5, 0);
        late.run(3);
        states("DORMANT", late, 0, 0, 32, 5, -1, -1, -1, 8, 0);
    }

    private static void promise12Partition() {
        PartitionKernel k = new PartitionKernel();
        k.process(2, 0, 5, 0, 0);
        k.window(2, 4);
        int[] give = Asm.join(Asm.words(Asm.li(17, 7)), Asm.words(Asm.li(10, 0), Asm.CALL),
            Asm.words(Asm.li(10, 1), Asm.CALL, Asm.li(10, 1), Asm.CALL),
            Asm.words(Asm.li(10, 2), Asm.CALL, Asm.li(10, 2), Asm.CALL, Asm.li(10, 2), Asm.CALL),
            Asm.words(Asm.li(10, 3), Asm.CALL, Asm.li(10, 3), Asm.CALL, Asm.li(10, 3), Asm.CALL),
            Asm.words(Asm.li(10, 3), Asm.CALL, Asm.li(10, 4), Asm.CALL, 0));
        Asm.place(k, 2, 0, give);
        k.begin();
        k.run(23);
        for (int s = 0; s < 4; s++) {
            CHECK.same("semaphore " + s, k.partition(2, 4 + s), s + 1);
            CHECK.same("another partition's", k.partition(1, 4 + s), 0);
        }
        CHECK.same("not stopped", k.partition(2, 0), 0);
        CHECK.same("processes", k.partition(2, 1), 1);
        CHECK.same("first", k.partition(2, 2), 0);
        CHECK.same("began again", k.partition(2, 3), 0);
        k.action(2, 0, 3);
        k.run(1);
        CHECK.same("began again", k.partition(2, 3), 1);
        CHECK.same("semaphore of a partition that began again", k.partition(2, 7), 0);
        k.action(2, 0, 4);
        k.run(24);
        CHECK.same("stopped", k.partition(2, 0), 1);
        CHECK.same("the others are not", k.partition(0, 0), 0);
        for (int what : new int[] {-1, 8, 9, Integer.MIN_VALUE, Integer.MAX_VALUE}) {
            CHECK.same("what " + what, k.partition(2, what), -1);
        }
        for (int p : FAR) {
            for (int what = -1; what < 9; what++) {
                CHECK.same("partition " + p, k.partition(p, what), -1);
            }
        }
    }

    private static void promise12First() {
        PartitionKernel k = new PartitionKernel();
        k.process(0, 0, 2, 0, 0);
        k.process(0, 32, 6, 0, 0);
        k.process(0, 64, 6, 0, 0);
        k.window(0, 50);
        Asm.place(k, 0, 0, Asm.idle());
        Asm.place(k, 0, 32, Asm.call(2, 5, 0));
        Asm.place(k, 0, 64, Asm.call(0, 0, 0));
        CHECK.same("none ahead of begin", k.partition(0, 2), -1);
        k.begin();
        CHECK.same("the first of the greatest", k.partition(0, 2), 1);
        k.run(4);
        CHECK.same("the next of the greatest", k.partition(0, 2), 2);
        k.run(4);
        CHECK.same("by what is READY now: the sleeper is not yet", k.partition(0, 2), 0);
        k.run(1);
        CHECK.same("the sleeper did the tick", k.state(0, 1, 6), 5);
        CHECK.same("and is first", k.partition(0, 2), 1);
        CHECK.same("a partition without processes", k.partition(1, 2), -1);
    }

    /** Sends 11, 22, 33 .. to channel 0 again and again, each four ticks behind the last. */
    private static PartitionKernel sender(boolean queue, int limit) {
        PartitionKernel k = one(Asm.li(17, 8), Asm.addi(11, 11, 11), Asm.li(10, 0), Asm.CALL, Asm.jal(0, -12));
        k.channel(queue, 0, 1, limit);
        k.begin();
        return k;
    }

    private static void promise13Traffic() {
        PartitionKernel k = sender(false, 10);
        CHECK.same("sample: none", k.traffic(0, 0), 0);
        CHECK.same("sample: no time", k.traffic(0, 1), -1);
        k.run(4);
        CHECK.same("sample: one", k.traffic(0, 0), 1);
        CHECK.same("sample: time", k.traffic(0, 1), 3);
        k.run(4);
        CHECK.same("sample: still one", k.traffic(0, 0), 1);
        CHECK.same("sample: newer time", k.traffic(0, 1), 7);
        PartitionKernel q = sender(true, 3);
        for (int n = 0; n < 5; n++) {
            CHECK.same("queue: words", q.traffic(0, 0), Math.min(n, 3));
            CHECK.same("queue: no time", q.traffic(0, 1), -1);
            q.run(4);
        }
        for (int what : new int[] {-1, 2, Integer.MIN_VALUE, Integer.MAX_VALUE}) {
            CHECK.same("what " + what, k.traffic(0, what), -1);
            CHECK.same("what " + what, q.traffic(0, what), -1);
        }
        for (int none : new int[] {-1, 1, 7, 8, Integer.MIN_VALUE, Integer.MAX_VALUE}) {
            CHECK.same("channel " + none, k.traffic(none, 0), -1);
            CHECK.same("channel " + none, k.traffic(none, 1), -1);
        }
    }

    private static void promise14Word() {
        PartitionKernel k = sender(false, 10);
        CHECK.same("sample: none", k.word(0, 0), 0);
        k.run(8);
        CHECK.same("sample: the newest", k.word(0, 0), 22);
        CHECK.same("sample: no second", k.word(0, 1), 0);
        PartitionKernel q = sender(true, 3);
        CHECK.same("queue: none", q.word(0, 0), 0);
        q.run(16);
        CHECK.same("queue: first", q.word(0, 0), 11);
        CHECK.same("queue: second", q.word(0, 1), 22);
        CHECK.same("queue: third", q.word(0, 2), 33);
        for (int none : new int[] {-1, 3, 7, 8, Integer.MIN_VALUE, Integer.MAX_VALUE}) {
            CHECK.same("word " + none, q.word(0, none), 0);
            CHECK.same("word " + none, k.word(0, none), 0);
        }
        for (int none : new int[] {-1, 1, 7, 8, Integer.MIN_VALUE, Integer.MAX_VALUE}) {
            CHECK.same("channel " + none, q.word(none, 0), 0);
        }
    }

    private static void errors(PartitionKernel k, int latest, int... due) {
        for (int what = 0; what < 4; what++) {
            CHECK.same("error(" + latest + ", " + what + ")", k.error(latest, what), due[what]);
        }
    }

    private static void promise15Error() {
        PartitionKernel k = new PartitionKernel();
        k.process(0, 0, 1, 0, 0);
        k.process(0, 0, 2, 0, 3);
        k.process(3, 0, 2, 0, 0);
        k.window(0, 2);
        k.window(3, 3);
        Asm.place(k, 0, 0, Asm.jal(0, 2), Asm.idle(), Asm.idle());
        Asm.place(k, 3, 0, 0, Asm.li(17, 10), Asm.CALL);
        CHECK.same("none ahead", k.error(0, 0), -1);
        k.begin();
        k.run(6);
        CHECK.same("errors in all", k.about(1), 5);
        errors(k, 4, 1, 0, 1, 1);
        errors(k, 3, 2, 3, 0, 0);
        errors(k, 2, 4, 3, 0, 3);
        errors(k, 1, 5, 0, 1, 2);
        errors(k, 0, 5, 0, 1, 1);
        for (int none : new int[] {-1, 5, 64, Integer.MIN_VALUE, Integer.MAX_VALUE}) {
            for (int what = 0; what < 4; what++) {
                CHECK.same("error " + none, k.error(none, what), -1);
            }
        }
        for (int what : new int[] {-1, 4, Integer.MIN_VALUE, Integer.MAX_VALUE}) {
            CHECK.same("what " + what, k.error(0, what), -1);
        }
    }

    private static void promise15Kept() {
        PartitionKernel k = one(Asm.words());
        k.begin();
        k.run(63);
        CHECK.same("the oldest of 63", k.error(62, 0), 0);
        CHECK.same("no 64th yet", k.error(63, 0), -1);
        k.run(1);
        CHECK.same("the oldest of 64", k.error(63, 0), 0);
        k.run(1);
        CHECK.same("the latest of 65", k.error(0, 0), 64);
        CHECK.same("the oldest kept", k.error(63, 0), 1);
        CHECK.same("no 65th is kept", k.error(64, 0), -1);
        k.run(200);
        CHECK.same("errors in all", k.about(1), 265);
        for (int n = 0; n < 64; n++) {
            CHECK.same("kept " + n, k.error(n, 0), 264 - n);
            CHECK.same("kept kind " + n, k.error(n, 3), 264 - n < 256 ? 0 : 1);
        }
    }

    private static void promise16About() {
        PartitionKernel k = one(Asm.li(1, 1), 0, Asm.idle());
        k.window(3, 5);
        CHECK.same("TIME ahead", k.about(0), 0);
        CHECK.same("no window ahead of begin", k.about(3), -1);
        k.begin();
        CHECK.same("first window", k.about(3), 0);
        k.run(9);
        CHECK.same("last tick of the first window", k.about(3), 0);
        k.run(1);
        CHECK.same("TIME", k.about(0), 10);
        CHECK.same("errors", k.about(1), 1);
        CHECK.same("instructions", k.about(2), 10);
        CHECK.same("second window", k.about(3), 3);
        k.run(5);
        CHECK.same("TIME", k.about(0), 15);
        CHECK.same("instructions", k.about(2), 10);
        CHECK.same("first window again", k.about(3), 0);
        for (int what : new int[] {-1, 4, Integer.MIN_VALUE, Integer.MAX_VALUE}) {
            CHECK.same("what " + what, k.about(what), -1);
        }
    }

    private LookTest() {
    }
}
