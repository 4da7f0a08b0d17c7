/** The term of ERRORS, sentence by sentence: what is noted, and the five actions for each kind. */
final class ErrorsTest {
    private static final Check CHECK = new Check("ErrorsTest");

    public static void main(String[] args) {
        CHECK.sentence("Each is noted (time, partition, process, kind)", ErrorsTest::eachIsNoted);
        CHECK.sentence("the latest 64 are kept", ErrorsTest::latestAreKept);
        CHECK.sentence("PC is where it went wrong", ErrorsTest::pcWhereItWentWrong);
        CHECK.sentence("the ACTION that its partition has for it", ErrorsTest::eachKindHasItsAction);
        CHECK.sentence("0 at first", ErrorsTest::actionsAtFirst);
        for (int kind : new int[] {0, 1, 3}) {
            String error = "error " + kind + ", action ";
            CHECK.sentence(error + "0: PC is 4 more", () -> action0(kind));
            CHECK.sentence(error + "1: the process is DORMANT", () -> action1(kind));
            CHECK.sentence(error + "2: it BEGINS again", () -> action2(kind));
            CHECK.sentence(error + "3: the partition begins", () -> action3(kind));
            CHECK.sentence(error + "4: the partition is STOPPED", () -> action4(kind));
        }
        error2();
        restart();
        CHECK.sentence("4: the partition is STOPPED, and stays so", ErrorsTest::stoppedStaysStopped);
        CHECK.sentence("errors stay where they are", ErrorsTest::errorsStayWhereTheyAre);
        CHECK.finish();
    }

    private static void error2() {
        CHECK.sentence("error 2, action 0: nothing", ErrorsTest::lateAction0);
        CHECK.sentence("error 2, action 1: the process is DORMANT", ErrorsTest::lateAction1);
        CHECK.sentence("error 2, action 2: it BEGINS again", ErrorsTest::lateAction2);
        CHECK.sentence("error 2, action 3: the partition begins", ErrorsTest::lateAction3);
        CHECK.sentence("error 2, action 4: the partition is STOPPED", ErrorsTest::lateAction4);
        CHECK.sentence("DORMANT or BEGUN, it waits for its semaphore no longer", ErrorsTest::leavingASemaphore);
        CHECK.sentence("DORMANT or BEGUN, it waits for its time no longer", ErrorsTest::leavingATime);
    }

    private static void restart() {
        CHECK.sentence("3: all its processes BEGIN, whatever their STATE", ErrorsTest::restartWakesAll);
        CHECK.sentence("3: by numbers", ErrorsTest::restartByNumbers);
        CHECK.sentence("3: its semaphores are 0", ErrorsTest::restartClearsEachSemaphore);
        CHECK.sentence("3: MEMORY and channels stay", ErrorsTest::restartKeepsMemoryAndChannels);
        CHECK.sentence("3: PRIORITY stays as it was set", ErrorsTest::restartKeepsPriority);
        CHECK.sentence("3: of this partition alone", ErrorsTest::restartOfOnePartition);
    }

    /** A process that goes wrong by its first word, in each partition, for two rounds of windows. */
    private static void eachIsNoted() {
        PartitionKernel k = new PartitionKernel();
        for (int p = 0; p < 4; p++) {
            for (int n = 0; n <= p; n++) {
                k.process(p, p % 2 == 0 ? 0 : 2, n, 0, 0);
            }
            k.window(p, 1);
        }
        k.begin();
        k.run(8);
        CHECK.same("errors", k.about(1), 8);
        for (int n = 0; n < 8; n++) {
            int time = 7 - n;
            int p = time % 4;
            CHECK.same("time", k.error(n, 0), time);
            CHECK.same("partition", k.error(n, 1), p);
            CHECK.same("process", k.error(n, 2), p);
            CHECK.same("kind", k.error(n, 3), p % 2);
        }
    }

    private static void latestAreKept() {
        for (int count : new int[] {1, 63, 64, 65, 127, 128, 129, 200}) {
            PartitionKernel k = new PartitionKernel();
            k.process(0, 0, 0, 0, 0);
            k.window(0, 1);
            k.begin();
            k.run(count);
            int kept = Math.min(count, 64);
            CHECK.same("errors in all", k.about(1), count);
            for (int n = 0; n < kept; n++) {
                CHECK.same("error " + n + " of " + count, k.error(n, 0), count - 1 - n);
            }
            CHECK.same("no more of " + count, k.error(kept, 0), -1);
        }
    }

    /** By an action that leaves PC: at a word that is none, a place that is none, a call, and outside of MEMORY. */
    private static void pcWhereItWentWrong() {
        for (int action : new int[] {1, 4}) {
            int[] wrong = {0, Asm.load(2, 5, 0, 2), Asm.CALL, Asm.jal(0, -2)};
            int[] pcs = {16, 16, 16, 14};
            for (int n = 0; n < 4; n++) {
                PartitionKernel k = new PartitionKernel();
                k.process(0, 8, 0, 0, 0);
                k.window(0, 1);
                Asm.place(k, 0, 8, Asm.li(17, 10), Asm.li(10, 3), wrong[n]);
                for (int kind = 0; kind < 4; kind++) {
                    k.action(0, kind, action);
                }
                k.begin();
                k.run(4);
                CHECK.same("errors", k.about(1), 1);
                CHECK.same("PC of " + n, k.state(0, 0, 1), pcs[n]);
            }
        }
    }

    private static void actionsAtFirst() {
        for (int p = 0; p < 4; p++) {
            PartitionKernel k = new PartitionKernel();
            k.process(p, 0, 0, 0, 2);
            k.window(p, 1);
            Asm.place(k, p, 0, 0, Asm.load(2, 1, 0, 1), Asm.li(17, 10), Asm.CALL, Asm.idle());
            k.begin();
            CHECK.same("instructions", k.run(5), 5);
            CHECK.same("errors of all kinds", k.about(1), 4);
            CHECK.same("PC", k.state(p, 0, 1), 16);
            CHECK.same("READY", k.state(p, 0, 0), 1);
            CHECK.same("RELEASE", k.state(p, 0, 7), 0);
            CHECK.same("not STOPPED", k.partition(p, 0), 0);
            CHECK.same("not begun again", k.partition(p, 3), 0);
        }
    }

    /** Process 1 is due at 2, so that error 2 comes in the tick 3; the other one is idle. */
    private static PartitionKernel late(int action) {
        PartitionKernel k = new PartitionKernel();
        k.process(2, 200, 3, 0, 0);
        k.process(2, 0, 5, 0, 2);
        Asm.place(k, 2, 0, Asm.li(17, 7), Asm.li(10, 1), Asm.CALL, Asm.idle());
        Asm.place(k, 2, 200, Asm.idle());
        k.window(2, 30);
        k.action(2, 2, action);
        k.begin();
        k.run(3);
        CHECK.same("none yet", k.about(1), 0);
        CHECK.same("DUE", k.state(2, 1, 3), 2);
        k.run(1);
        CHECK.same("errors", k.about(1), 1);
        CHECK.same("time", k.error(0, 0), 3);
        CHECK.same("partition", k.error(0, 1), 2);
        CHECK.same("process", k.error(0, 2), 1);
        CHECK.same("kind", k.error(0, 3), 2);
        return k;
    }

    private static void lateAction0() {
        PartitionKernel k = late(0);
        states("it went on", k, 1, 1, 12, 5, -1, -1, -1, 4, 0);
        CHECK.same("semaphore", k.partition(2, 5), 1);
        CHECK.same("not begun again", k.partition(2, 3), 0);
    }

    private static void lateAction1() {
        PartitionKernel k = late(1);
        states("it rests", k, 1, 0, 12, 5, -1, -1, -1, 3, 0);
        states("the other did the tick", k, 0, 1, 200, 3, -1, -1, -1, 1, 0);
    }

    private static void lateAction2() {
        PartitionKernel k = late(2);
        states("it BEGAN and did the tick", k, 1, 1, 4, 5, 5, -1, -1, 4, 3);
        CHECK.same("x10", k.register(2, 1, 10), 0);
        CHECK.same("semaphore", k.partition(2, 5), 1);
        CHECK.same("not begun again", k.partition(2, 3), 0);
    }

    private static void lateAction3() {
        PartitionKernel k = late(3);
        states("it BEGAN, and the tick is over", k, 1, 1, 0, 5, 5, -1, -1, 3, 3);
        states("the other BEGAN", k, 0, 1, 200, 3, -1, -1, -1, 0, 3);
        CHECK.same("semaphore", k.partition(2, 5), 0);
        CHECK.same("begun again", k.partition(2, 3), 1);
    }

    private static void lateAction4() {
        PartitionKernel k = late(4);
        states("it is as it was, without a DUE", k, 1, 1, 12, 5, -1, -1, -1, 3, 0);
        CHECK.same("STOPPED", k.partition(2, 0), 1);
        CHECK.same("nothing more", k.run(100), 0);
    }

    /** Process 1 gives semaphore 1, sends 6, sets x5, stores it and goes wrong by its fifth word behind that. */
    private static PartitionKernel failing(int kind, int action) {
        PartitionKernel k = new PartitionKernel();
        k.process(2, 200, 3, 0, 0);
        k.process(2, 0, 5, 0, 50);
        k.channel(true, 2, 3, 4);
        int[] wrong = kind == 0 ? Asm.words(Asm.li(17, 10), -1)
            : kind == 1 ? Asm.words(Asm.li(17, 10), Asm.load(2, 5, 0, 2)) : Asm.words(Asm.li(17, 10), Asm.CALL);
        Asm.place(k, 2, 0, Asm.join(Asm.call(7, 1, 0), Asm.call(8, 0, 6),
            Asm.words(Asm.li(5, 9), Asm.store(2, 5, 0, 900)), wrong, Asm.words(Asm.idle())));
        Asm.place(k, 2, 200, Asm.idle());
        k.window(2, 30);
        k.action(2, kind, action);
        k.begin();
        CHECK.same("instructions", k.run(12), 12);
        CHECK.same("errors", k.about(1), 1);
        CHECK.same("time", k.error(0, 0), 11);
        CHECK.same("partition", k.error(0, 1), 2);
        CHECK.same("process", k.error(0, 2), 1);
        CHECK.same("kind", k.error(0, 3), kind);
        CHECK.same("its instructions", k.state(2, 1, 6), 12);
        CHECK.same("memory", k.peek(2, 900), 9);
        CHECK.same("channel", k.word(0, 0), 6);
        CHECK.same("words", k.traffic(0, 0), 1);
        return k;
    }

    private static void states(String when, PartitionKernel k, int process, int... due) {
        for (int what = 0; what < due.length; what++) {
            CHECK.same(when + ": state(2, " + process + ", " + what + ")", k.state(2, process, what), due[what]);
        }
    }

    private static void action0(int kind) {
        PartitionKernel k = failing(kind, 0);
        states("action 0, kind " + kind, k, 1, 1, 48, 5, 50, -1, -1, 12, 0);
        CHECK.same("x5", k.register(2, 1, 5), 9);
        CHECK.same("semaphore", k.partition(2, 5), 1);
        CHECK.same("not begun again", k.partition(2, 3), 0);
        CHECK.same("not stopped", k.partition(2, 0), 0);
        CHECK.same("it goes on", k.run(1), 1);
    }

    private static void action1(int kind) {
        PartitionKernel k = failing(kind, 1);
        states("action 1, kind " + kind, k, 1, 0, 44, 5, -1, -1, -1, 12, 0);
        CHECK.same("x5", k.register(2, 1, 5), 9);
        CHECK.same("semaphore", k.partition(2, 5), 1);
        CHECK.same("the other is first", k.partition(2, 2), 0);
        CHECK.same("the other goes on", k.run(20), 20);
        CHECK.same("by itself", k.state(2, 0, 6), 20);
    }

    private static void action2(int kind) {
        PartitionKernel k = failing(kind, 2);
        states("action 2, kind " + kind, k, 1, 1, 0, 5, 61, -1, -1, 12, 11);
        for (int x = 0; x < 32; x++) {
            CHECK.same("x" + x, k.register(2, 1, x), 0);
        }
        CHECK.same("semaphore", k.partition(2, 5), 1);
        CHECK.same("not begun again", k.partition(2, 3), 0);
        CHECK.same("it goes on", k.run(12), 12);
        CHECK.same("and wrong again", k.about(1), 2);
        CHECK.same("semaphore", k.partition(2, 5), 2);
    }

    private static void action3(int kind) {
        PartitionKernel k = failing(kind, 3);
        states("action 3, kind " + kind, k, 1, 1, 0, 5, 61, -1, -1, 12, 11);
        states("action 3, the other", k, 0, 1, 200, 3, -1, -1, -1, 0, 11);
        CHECK.same("x5", k.register(2, 1, 5), 0);
        CHECK.same("semaphore", k.partition(2, 5), 0);
        CHECK.same("begun again", k.partition(2, 3), 1);
        CHECK.same("the others did not", k.partition(3, 3), 0);
        k.run(12);
        CHECK.same("begun again", k.partition(2, 3), 2);
        CHECK.same("the channel has more", k.traffic(0, 0), 2);
    }

    private static void action4(int kind) {
        PartitionKernel k = failing(kind, 4);
        states("action 4, kind " + kind, k, 1, 1, 44, 5, 50, -1, -1, 12, 0);
        CHECK.same("stopped", k.partition(2, 0), 1);
        CHECK.same("x5", k.register(2, 1, 5), 9);
        CHECK.same("semaphore", k.partition(2, 5), 1);
        CHECK.same("nothing more", k.run(200), 0);
        CHECK.same("no error more", k.about(1), 1);
        CHECK.same("TIME", k.about(0), 212);
    }

    private static void eachKindHasItsAction() {
        for (int kind : new int[] {0, 1, 3}) {
            PartitionKernel k = new PartitionKernel();
            k.process(0, 0, 1, 0, 0);
            k.window(0, 10);
            for (int other = 0; other < 4; other++) {
                k.action(0, other, other == kind ? 1 : 4);
                k.action(1, other, 4);
            }
            int[] wrong = {0, Asm.load(2, 1, 0, 1), 0, Asm.CALL};
            Asm.place(k, 0, 0, Asm.li(17, 10), wrong[kind]);
            k.begin();
            k.run(2);
            CHECK.same("kind " + kind, k.error(0, 3), kind);
            CHECK.same("its own action", k.state(0, 0, 0), 0);
            CHECK.same("and no other's", k.partition(0, 0), 0);
        }
    }

    private static void restartWakesAll() {
        PartitionKernel k = new PartitionKernel();
        k.process(2, 0, 9, 0, 30);
        k.process(2, 64, 8, 70, 0);
        k.process(2, 128, 7, 0, 0);
        k.process(2, 192, 6, 0, 0);
        Asm.place(k, 2, 0, Asm.call(6, 0, 0));
        Asm.place(k, 2, 64, Asm.call(1, 0, 0));
        Asm.place(k, 2, 128, Asm.call(0, 0, 0));
        Asm.place(k, 2, 192, 0);
        k.window(2, 40);
        k.action(2, 0, 3);
        k.begin();
        k.run(12);
        CHECK.same("waits for a semaphore", k.state(2, 0, 0), 3);
        CHECK.same("waits for a time", k.state(2, 1, 0), 2);
        CHECK.same("DORMANT", k.state(2, 2, 0), 0);
        k.run(1);
        states("all BEGIN", k, 0, 1, 0, 9, 42, -1, -1, 4, 12);
        states("all BEGIN", k, 1, 1, 64, 8, -1, -1, -1, 4, 12);
        states("all BEGIN", k, 2, 1, 128, 7, -1, -1, -1, 4, 12);
        states("all BEGIN", k, 3, 1, 192, 6, -1, -1, -1, 1, 12);
    }

    private static void restartByNumbers() {
        PartitionKernel k = new PartitionKernel();
        k.process(0, 0, 5, 0, 0);
        k.process(0, 64, 5, 0, 0);
        k.process(0, 128, 5, 0, 0);
        Asm.place(k, 0, 0, Asm.call(2, 1, 0));
        Asm.place(k, 0, 64, Asm.li(1, 1), Asm.li(1, 1), 0);
        k.window(0, 40);
        k.action(0, 0, 3);
        k.begin();
        k.run(6);
        CHECK.same("process 1 is first now", k.partition(0, 2), 1);
        k.run(1);
        CHECK.same("by numbers again", k.partition(0, 2), 0);
    }

    private static void restartClearsEachSemaphore() {
        PartitionKernel k = new PartitionKernel();
        k.process(0, 0, 5, 0, 0);
        Asm.place(k, 0, 0, Asm.join(Asm.call(7, 0, 0), Asm.call(7, 1, 0), Asm.call(7, 2, 0), Asm.call(7, 3, 0), Asm.words(0)));
        k.window(0, 40);
        k.action(0, 0, 3);
        k.begin();
        k.run(16);
        for (int s = 4; s < 8; s++) {
            CHECK.same("given", k.partition(0, s), 1);
        }
        k.run(1);
        for (int s = 4; s < 8; s++) {
            CHECK.same("0 again", k.partition(0, s), 0);
        }
    }

    private static void restartKeepsMemoryAndChannels() {
        PartitionKernel k = new PartitionKernel();
        k.process(0, 0, 5, 0, 0);
        k.channel(true, 0, 0, 8);
        k.channel(false, 0, 1, 8);
        Asm.place(k, 0, 0, Asm.join(Asm.call(8, 0, 61), Asm.call(8, 1, 62), Asm.words(Asm.store(2, 11, 0, 800), 0)));
        k.window(0, 40);
        k.action(0, 0, 3);
        k.begin();
        k.run(10);
        CHECK.same("begun again", k.partition(0, 3), 1);
        CHECK.same("MEMORY", k.peek(0, 800), 62);
        CHECK.same("its program", k.peek(0, 12), Asm.CALL);
        CHECK.same("the QUEUE", k.word(0, 0), 61);
        CHECK.same("its words", k.traffic(0, 0), 1);
        CHECK.same("the SAMPLE", k.word(1, 0), 62);
        CHECK.same("its time", k.traffic(1, 1), 7);
    }

    private static void restartOfOnePartition() {
        PartitionKernel k = new PartitionKernel();
        k.process(0, 0, 5, 0, 0);
        k.process(1, 0, 5, 0, 60);
        Asm.place(k, 1, 0, Asm.join(Asm.call(7, 2, 0), Asm.call(2, 90, 0)));
        k.window(1, 8);
        k.window(0, 1);
        k.action(0, 0, 3);
        k.begin();
        k.run(9);
        CHECK.same("begun again", k.partition(0, 3), 1);
        CHECK.same("not the other", k.partition(1, 3), 0);
        CHECK.same("the other's semaphore", k.partition(1, 6), 1);
        CHECK.same("the other's process WAITS", k.state(1, 0, 0), 2);
        CHECK.same("and has its DUE", k.state(1, 0, 3), 60);
    }

    private static void restartKeepsPriority() {
        PartitionKernel k = new PartitionKernel();
        k.process(0, 0, 5, 0, 0);
        k.process(0, 64, 1, 0, 0);
        Asm.place(k, 0, 0, Asm.join(Asm.call(4, 1, 12), Asm.words(0)));
        Asm.place(k, 0, 64, 0);
        k.window(0, 40);
        k.action(0, 0, 3);
        k.begin();
        k.run(5);
        CHECK.same("begun again", k.partition(0, 3), 1);
        CHECK.same("PRIORITY stays", k.state(0, 1, 2), 12);
    }

    private static void stoppedStaysStopped() {
        PartitionKernel k = new PartitionKernel();
        k.process(0, 0, 5, 0, 0);
        k.process(0, 64, 9, 0, 6);
        Asm.place(k, 0, 0, 0);
        Asm.place(k, 0, 64, Asm.call(2, 2, 0));
        k.window(0, 40);
        k.action(0, 0, 4);
        k.begin();
        k.run(5);
        CHECK.same("stopped", k.partition(0, 0), 1);
        k.action(0, 0, 0);
        CHECK.same("no instruction", k.run(100), 0);
        CHECK.same("a new action does not start it", k.partition(0, 0), 1);
        CHECK.same("sleepers sleep", k.state(0, 1, 0), 2);
        CHECK.same("for their time", k.state(0, 1, 4), 5);
        CHECK.same("DUE stays", k.state(0, 1, 3), 6);
        CHECK.same("one error", k.about(1), 1);
    }

    private static void errorsStayWhereTheyAre() {
        PartitionKernel k = new PartitionKernel();
        for (int p = 0; p < 4; p++) {
            k.process(p, 0, 5, 0, 0);
            k.window(p, 3);
            k.action(p, 0, p + 1);
            k.poke(p, 4, Asm.idle());
        }
        k.begin();
        k.run(24);
        CHECK.same("0: DORMANT", k.state(0, 0, 0), 0);
        CHECK.same("0: one", k.state(0, 0, 6), 1);
        CHECK.same("1: BEGAN each time", k.state(1, 0, 6), 6);
        CHECK.same("1: not as a partition", k.partition(1, 3), 0);
        CHECK.same("2: began again each time", k.partition(2, 3), 6);
        CHECK.same("3: stopped", k.partition(3, 0), 1);
        CHECK.same("3: one", k.state(3, 0, 6), 1);
        CHECK.same("errors", k.about(1), 14);
        CHECK.same("instructions", k.about(2), 14);
        for (int p = 0; p < 3; p++) {
            CHECK.same("not stopped", k.partition(p, 0), 0);
        }
    }

    private static void leavingASemaphore() {
        for (int action = 1; action <= 2; action++) {
            PartitionKernel k = new PartitionKernel();
            k.process(2, 0, 9, 0, 5);
            k.process(2, 64, 1, 0, 0);
            Asm.place(k, 2, 0, Asm.call(6, 1, 0));
            Asm.place(k, 2, 64, Asm.join(Asm.call(2, 6, 0), Asm.call(7, 1, 0), Asm.words(Asm.idle())));
            k.window(2, 40);
            k.action(2, 2, action);
            k.begin();
            k.run(6);
            CHECK.same("waits", k.state(2, 0, 5), 1);
            k.run(1);
            CHECK.same("error", k.error(0, 3), 2);
            CHECK.same("no longer", k.state(2, 0, 5), -1);
            CHECK.same("state", k.state(2, 0, 0), action == 1 ? 0 : 1);
            CHECK.same("DUE", k.state(2, 0, 3), action == 1 ? -1 : 11);
            if (action == 1) {
                k.run(11);
                CHECK.same("nobody waits: the count is one more", k.partition(2, 5), 1);
                CHECK.same("still DORMANT", k.state(2, 0, 0), 0);
            }
        }
    }

    /** It sleeps until 103 when error 2 comes, at 6; its time passes later and is nothing to it. */
    private static void leavingATime() {
        for (int action = 1; action <= 2; action++) {
            PartitionKernel k = new PartitionKernel();
            k.process(2, 0, 9, 0, 5);
            Asm.place(k, 2, 0, Asm.join(Asm.call(2, 100, 0), Asm.words(Asm.idle())));
            k.window(2, 40);
            k.action(2, 2, action);
            k.begin();
            k.run(6);
            CHECK.same("waits for", k.state(2, 0, 4), 103);
            k.poke(2, 0, Asm.idle());
            k.run(1);
            CHECK.same("error", k.error(0, 3), 2);
            CHECK.same("no longer", k.state(2, 0, 4), -1);
            CHECK.same("STATE", k.state(2, 0, 0), action == 1 ? 0 : 1);
            k.action(2, 2, 0);
            k.run(200);
            CHECK.same("STATE later", k.state(2, 0, 0), action == 1 ? 0 : 1);
        }
    }

    private ErrorsTest() {
    }
}
