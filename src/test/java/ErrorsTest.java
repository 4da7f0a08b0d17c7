/** The term of ERRORS: the five actions for the kinds that an instruction makes, and what stays apart. */
final class ErrorsTest {
    private static final Check CHECK = new Check("ErrorsTest");

    public static void main(String[] args) {
        for (int kind : new int[] {0, 1, 3}) {
            action0(kind);
            action1(kind);
            action2(kind);
            action3(kind);
            action4(kind);
        }
        eachKindHasItsAction();
        restartWakesAll();
        restartByNumbers();
        restartClearsEachSemaphore();
        restartKeepsPriority();
        stoppedStaysStopped();
        errorsStayWhereTheyAre();
        beginsBehindTheReady();
        leavingASemaphore();
        CHECK.finish();
    }

    /** Process 1 gives semaphore 1, sends 6, sets x5, stores it and goes wrong by its fifth word behind that. */
    private static PartitionKernel failing(int kind, int action) {
        PartitionKernel k = new PartitionKernel();
        k.process(2, 200, 3, 0, 0);
        k.process(2, 0, 5, 0, 50);
        k.channel(true, 2, 3, 4);
        int[] wrong = kind == 0 ? Asm.words(Asm.li(17, 10), -1)
            : kind == 1 ? Asm.words(Asm.li(17, 10), Asm.load(2, 5, 0, 2)) : Asm.words(Asm.li(17, 10), Asm.CALL);
        Asm.place(k, 2, 0, Asm.join(Asm.call(7, 1, 0), Asm.call(8, 0, 6),
            Asm.words(Asm.li(5, 9), Asm.store(2, 5, 0, 900)), wrong, Asm.words(Asm.idle())));
        Asm.place(k, 2, 200, Asm.idle());
        k.window(2, 30);
        k.action(2, kind, action);
        k.begin();
        CHECK.same("instructions", k.run(12), 12);
        CHECK.same("errors", k.about(1), 1);
        CHECK.same("time", k.error(0, 0), 11);
        CHECK.same("partition", k.error(0, 1), 2);
        CHECK.same("process", k.error(0, 2), 1);
        CHECK.same("kind", k.error(0, 3), kind);
        CHECK.same("its instructions", k.state(2, 1, 6), 12);
        CHECK.same("memory", k.peek(2, 900), 9);
        CHECK.same("channel", k.word(0, 0), 6);
        CHECK.same("words", k.traffic(0, 0), 1);
        return k;
    }

    private static void states(String when, PartitionKernel k, int process, int... due) {
        for (int what = 0; what < due.length; what++) {
            CHECK.same(when + ": state(2, " + process + ", " + what + ")", k.state(2, process, what), due[what]);
        }
    }

    private static void action0(int kind) {
        PartitionKernel k = failing(kind, 0);
        states("action 0, kind " + kind, k, 1, 1, 48, 5, 50, -1, -1, 12, 0);
        CHECK.same("x5", k.register(2, 1, 5), 9);
        CHECK.same("semaphore", k.partition(2, 5), 1);
        CHECK.same("not begun again", k.partition(2, 3), 0);
        CHECK.same("not stopped", k.partition(2, 0), 0);
        CHECK.same("it goes on", k.run(1), 1);
    }

    private static void action1(int kind) {
        PartitionKernel k = failing(kind, 1);
        states("action 1, kind " + kind, k, 1, 0, 44, 5, -1, -1, -1, 12, 0);
        CHECK.same("x5", k.register(2, 1, 5), 9);
        CHECK.same("semaphore", k.partition(2, 5), 1);
        CHECK.same("the other is first", k.partition(2, 2), 0);
        CHECK.same("the other goes on", k.run(20), 20);
        CHECK.same("by itself", k.state(2, 0, 6), 20);
    }

    private static void action2(int kind) {
        PartitionKernel k = failing(kind, 2);
        states("action 2, kind " + kind, k, 1, 1, 0, 5, 61, -1, -1, 12, 11);
        for (int x = 0; x < 32; x++) {
            CHECK.same("x" + x, k.register(2, 1, x), 0);
        }
        CHECK.same("semaphore", k.partition(2, 5), 1);
        CHECK.same("not begun again", k.partition(2, 3), 0);
        CHECK.same("it goes on", k.run(12), 12);
        CHECK.same("and wrong again", k.about(1), 2);
        CHECK.same("semaphore", k.partition(2, 5), 2);
    }

    private static void action3(int kind) {
        PartitionKernel k = failing(kind, 3);
        states("action 3, kind " + kind, k, 1, 1, 0, 5, 61, -1, -1, 12, 11);
        states("action 3, the other", k, 0, 1, 200, 3, -1, -1, -1, 0, 11);
        CHECK.same("x5", k.register(2, 1, 5), 0);
        CHECK.same("semaphore", k.partition(2, 5), 0);
        CHECK.same("begun again", k.partition(2, 3), 1);
        CHECK.same("the others did not", k.partition(3, 3), 0);
        k.run(12);
        CHECK.same("begun again", k.partition(2, 3), 2);
        CHECK.same("the channel has more", k.traffic(0, 0), 2);
    }

    private static void action4(int kind) {
        PartitionKernel k = failing(kind, 4);
        states("action 4, kind " + kind, k, 1, 1, 44, 5, 50, -1, -1, 12, 0);
        CHECK.same("stopped", k.partition(2, 0), 1);
        CHECK.same("x5", k.register(2, 1, 5), 9);
        CHECK.same("semaphore", k.partition(2, 5), 1);
        CHECK.same("nothing more", k.run(200), 0);
        CHECK.same("no error more", k.about(1), 1);
        CHECK.same("TIME", k.about(0), 212);
    }

    private static void eachKindHasItsAction() {
        for (int kind : new int[] {0, 1, 3}) {
            PartitionKernel k = new PartitionKernel();
            k.process(0, 0, 1, 0, 0);
            k.window(0, 10);
            for (int other = 0; other < 4; other++) {
                k.action(0, other, other == kind ? 1 : 4);
                k.action(1, other, 4);
            }
            int[] wrong = {0, Asm.load(2, 1, 0, 1), 0, Asm.CALL};
            Asm.place(k, 0, 0, Asm.li(17, 10), wrong[kind]);
            k.begin();
            k.run(2);
            CHECK.same("kind " + kind, k.error(0, 3), kind);
            CHECK.same("its own action", k.state(0, 0, 0), 0);
            CHECK.same("and no other's", k.partition(0, 0), 0);
        }
    }

    private static void restartWakesAll() {
        PartitionKernel k = new PartitionKernel();
        k.process(2, 0, 9, 0, 30);
        k.process(2, 64, 8, 70, 0);
        k.process(2, 128, 7, 0, 0);
        k.process(2, 192, 6, 0, 0);
        Asm.place(k, 2, 0, Asm.call(6, 0, 0));
        Asm.place(k, 2, 64, Asm.call(1, 0, 0));
        Asm.place(k, 2, 128, Asm.call(0, 0, 0));
        Asm.place(k, 2, 192, 0);
        k.window(2, 40);
        k.action(2, 0, 3);
        k.begin();
        k.run(12);
        CHECK.same("waits for a semaphore", k.state(2, 0, 0), 3);
        CHECK.same("waits for a time", k.state(2, 1, 0), 2);
        CHECK.same("DORMANT", k.state(2, 2, 0), 0);
        k.run(1);
        states("all BEGIN", k, 0, 1, 0, 9, 42, -1, -1, 4, 12);
        states("all BEGIN", k, 1, 1, 64, 8, -1, -1, -1, 4, 12);
        states("all BEGIN", k, 2, 1, 128, 7, -1, -1, -1, 4, 12);
        states("all BEGIN", k, 3, 1, 192, 6, -1, -1, -1, 1, 12);
    }

    private static void restartByNumbers() {
        PartitionKernel k = new PartitionKernel();
        k.process(0, 0, 5, 0, 0);
        k.process(0, 64, 5, 0, 0);
        k.process(0, 128, 5, 0, 0);
        Asm.place(k, 0, 0, Asm.call(2, 1, 0));
        Asm.place(k, 0, 64, Asm.li(1, 1), Asm.li(1, 1), 0);
        k.window(0, 40);
        k.action(0, 0, 3);
        k.begin();
        k.run(6);
        CHECK.same("process 1 is first now", k.partition(0, 2), 1);
        k.run(1);
        CHECK.same("by numbers again", k.partition(0, 2), 0);
    }

    private static void restartClearsEachSemaphore() {
        PartitionKernel k = new PartitionKernel();
        k.process(0, 0, 5, 0, 0);
        Asm.place(k, 0, 0, Asm.join(Asm.call(7, 0, 0), Asm.call(7, 1, 0), Asm.call(7, 2, 0), Asm.call(7, 3, 0), Asm.words(0)));
        k.window(0, 40);
        k.action(0, 0, 3);
        k.begin();
        k.run(16);
        for (int s = 4; s < 8; s++) {
            CHECK.same("given", k.partition(0, s), 1);
        }
        k.run(1);
        for (int s = 4; s < 8; s++) {
            CHECK.same("0 again", k.partition(0, s), 0);
        }
    }

    private static void restartKeepsPriority() {
        PartitionKernel k = new PartitionKernel();
        k.process(0, 0, 5, 0, 0);
        k.process(0, 64, 1, 0, 0);
        Asm.place(k, 0, 0, Asm.join(Asm.call(4, 1, 12), Asm.words(0)));
        Asm.place(k, 0, 64, 0);
        k.window(0, 40);
        k.action(0, 0, 3);
        k.begin();
        k.run(5);
        CHECK.same("begun again", k.partition(0, 3), 1);
        CHECK.same("PRIORITY stays", k.state(0, 1, 2), 12);
    }

    private static void stoppedStaysStopped() {
        PartitionKernel k = new PartitionKernel();
        k.process(0, 0, 5, 0, 0);
        k.process(0, 64, 9, 0, 6);
        Asm.place(k, 0, 0, 0);
        Asm.place(k, 0, 64, Asm.call(2, 2, 0));
        k.window(0, 40);
        k.action(0, 0, 4);
        k.begin();
        k.run(5);
        CHECK.same("stopped", k.partition(0, 0), 1);
        k.action(0, 0, 0);
        CHECK.same("no instruction", k.run(100), 0);
        CHECK.same("a new action does not start it", k.partition(0, 0), 1);
        CHECK.same("sleepers sleep", k.state(0, 1, 0), 2);
        CHECK.same("for their time", k.state(0, 1, 4), 5);
        CHECK.same("DUE stays", k.state(0, 1, 3), 6);
        CHECK.same("one error", k.about(1), 1);
    }

    private static void errorsStayWhereTheyAre() {
        PartitionKernel k = new PartitionKernel();
        for (int p = 0; p < 4; p++) {
            k.process(p, 0, 5, 0, 0);
            k.window(p, 3);
            k.action(p, 0, p + 1);
            k.poke(p, 4, Asm.idle());
        }
        k.begin();
        k.run(24);
        CHECK.same("0: DORMANT", k.state(0, 0, 0), 0);
        CHECK.same("0: one", k.state(0, 0, 6), 1);
        CHECK.same("1: BEGAN each time", k.state(1, 0, 6), 6);
        CHECK.same("1: not as a partition", k.partition(1, 3), 0);
        CHECK.same("2: began again each time", k.partition(2, 3), 6);
        CHECK.same("3: stopped", k.partition(3, 0), 1);
        CHECK.same("3: one", k.state(3, 0, 6), 1);
        CHECK.same("errors", k.about(1), 14);
        CHECK.same("instructions", k.about(2), 14);
        for (int p = 0; p < 3; p++) {
            CHECK.same("not stopped", k.partition(p, 0), 0);
        }
    }

    private static void beginsBehindTheReady() {
        PartitionKernel k = new PartitionKernel();
        k.process(0, 0, 5, 0, 0);
        k.process(0, 64, 5, 0, 0);
        Asm.place(k, 0, 0, 0);
        Asm.place(k, 0, 64, Asm.idle());
        k.window(0, 40);
        k.action(0, 0, 2);
        k.begin();
        k.run(1);
        CHECK.same("who BEGINS stands behind", k.partition(0, 2), 1);
        k.run(10);
        CHECK.same("and stays there", k.state(0, 0, 6), 1);
    }

    /** Who waits for a semaphore and BEGINS by a DUE error waits for it no longer. */
    private static void leavingASemaphore() {
        for (int action = 1; action <= 2; action++) {
            PartitionKernel k = new PartitionKernel();
            k.process(2, 0, 9, 0, 5);
            k.process(2, 64, 1, 0, 0);
            Asm.place(k, 2, 0, Asm.call(6, 1, 0));
            Asm.place(k, 2, 64, Asm.join(Asm.call(2, 6, 0), Asm.call(7, 1, 0), Asm.words(Asm.idle())));
            k.window(2, 40);
            k.action(2, 2, action);
            k.begin();
            k.run(6);
            CHECK.same("waits", k.state(2, 0, 5), 1);
            k.run(1);
            CHECK.same("error", k.error(0, 3), 2);
            CHECK.same("no longer", k.state(2, 0, 5), -1);
            CHECK.same("state", k.state(2, 0, 0), action == 1 ? 0 : 1);
            CHECK.same("DUE", k.state(2, 0, 3), action == 1 ? -1 : 11);
            if (action == 1) {
                k.run(11);
                CHECK.same("nobody waits: the count is one more", k.partition(2, 5), 1);
                CHECK.same("still DORMANT", k.state(2, 0, 0), 0);
            }
        }
    }

    private ErrorsTest() {
    }
}
