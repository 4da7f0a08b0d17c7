/** The term of a TICK, sentence by sentence: whose it is, who wakes, who is too late, who works. */
final class TickTest {
    private static final Check CHECK = new Check("TickTest");

    public static void main(String[] args) {
        CHECK.sentence("A TICK is that of the partition whose window it is", TickTest::windows);
        CHECK.sentence("nothing happens in one that is STOPPED", TickTest::stoppedOne);
        wakes();
        dues();
        works();
        CHECK.sentence("Then TIME is one more", TickTest::timeIsOneMore);
        CHECK.finish();
    }

    private static void wakes() {
        CHECK.sentence("WAIT for a time not above now", TickTest::sleeperWakesAtItsTime);
        CHECK.sentence("WAIT for a time that is past", TickTest::sleeperWakesInItsWindowAlone);
        CHECK.sentence("WAIT for now itself", TickTest::sleepersStandBehind);
        CHECK.sentence("the earlier time first", TickTest::sleepersByTime);
        CHECK.sentence("then by numbers", TickTest::sleepersByNumber);
        CHECK.sentence("eight that wake at once", TickTest::eightWake);
    }

    private static void dues() {
        CHECK.sentence("with a DUE that is below now", TickTest::dueIsStrict);
        CHECK.sentence("DUE is none, error 2", TickTest::dueOnce);
        CHECK.sentence("each process: also one that WAITS for a time", TickTest::dueOfASleeper);
        CHECK.sentence("each process: also one that WAITS for a semaphore", TickTest::dueOfAWaiter);
        CHECK.sentence("each process: also one that woke in this tick", TickTest::dueOfOneThatWoke);
        CHECK.sentence("Then for each process: who wakes comes ahead of it", TickTest::wakesAheadOfDue);
        CHECK.sentence("not DORMANT", TickTest::dueOfADormantOne);
        CHECK.sentence("a DUE in another's window", TickTest::dueWaitsForItsWindow);
        CHECK.sentence("for each process, by numbers", TickTest::dueByNumbersBeforeTheInstruction);
        CHECK.sentence("eight that are too late at once", TickTest::eightLate);
        CHECK.sentence("error 2 with action 1: the tick goes on", TickTest::dueThatRestsLetsOthersWork);
        CHECK.sentence("error 2 with action 2: the tick goes on", TickTest::dueThatBeginsStandsBehind);
        CHECK.sentence("With an error whose action is 3 the tick is over", TickTest::dueThatBeginsAllEndsTheTick);
        CHECK.sentence("With an error whose action is 4 the tick is over", TickTest::dueThatStopsEndsTheTick);
    }

    private static void works() {
        CHECK.sentence("the one with the greatest PRIORITY", TickTest::greatestPriority);
        CHECK.sentence("the greatest PRIORITY, also if it woke in this tick", TickTest::sleeperTakesTheTick);
        CHECK.sentence("the first one of these", TickTest::equalsDoNotTakeTurns);
        CHECK.sentence("of those READY: none", TickTest::nobodyReady);
        CHECK.sentence("one instruction a tick", TickTest::oneInstructionATick);
    }

    private static PartitionKernel idlers(int... priorities) {
        PartitionKernel k = new PartitionKernel();
        for (int priority : priorities) {
            k.process(0, 0, priority, 0, 0);
        }
        k.poke(0, 0, Asm.idle());
        return k;
    }

    private static void did(String when, PartitionKernel k, int partition, int... due) {
        for (int n = 0; n < due.length; n++) {
            CHECK.same(when + ": instructions of " + n, k.state(partition, n, 6), due[n]);
        }
    }

    private static void windows() {
        PartitionKernel k = new PartitionKernel();
        for (int p = 0; p < 4; p++) {
            k.process(p, 0, p, 0, 0);
            k.poke(p, 0, Asm.addi(5, 5, 1));
            k.poke(p, 4, Asm.jal(0, -4));
        }
        k.window(3, 2);
        k.window(1, 4);
        k.window(3, 6);
        k.begin();
        CHECK.same("run", k.run(120), 120);
        did("by windows", k, 3, 80);
        did("by windows", k, 1, 40);
        did("no window", k, 0, 0);
        did("no window", k, 2, 0);
        CHECK.same("READY without a window", k.state(2, 0, 0), 1);
        CHECK.same("x5", k.register(3, 0, 5), 40);
    }

    /** Process 0 sleeps until 5, process 1 is due at 6, process 2 stops the partition in the tick 4. */
    private static void stoppedOne() {
        PartitionKernel k = new PartitionKernel();
        k.process(0, 0, 9, 0, 0);
        k.process(0, 64, 1, 0, 6);
        k.process(0, 128, 5, 0, 0);
        Asm.place(k, 0, 0, Asm.call(2, 2, 0));
        Asm.place(k, 0, 64, Asm.idle());
        k.action(0, 0, 4);
        k.window(0, 10);
        k.begin();
        CHECK.same("until it is STOPPED", k.run(5), 5);
        CHECK.same("STOPPED", k.partition(0, 0), 1);
        CHECK.same("no instruction", k.run(100), 0);
        CHECK.same("the sleeper sleeps", k.state(0, 0, 0), 2);
        CHECK.same("for its time", k.state(0, 0, 4), 5);
        CHECK.same("the DUE stays", k.state(0, 1, 3), 6);
        CHECK.same("no error more", k.about(1), 1);
        CHECK.same("TIME", k.about(0), 105);
        k.action(0, 0, 0);
        CHECK.same("another action starts nothing", k.run(100), 0);
    }

    private static void timeIsOneMore() {
        PartitionKernel k = new PartitionKernel();
        k.process(0, 0, 9, 0, 0);
        k.process(1, 4, 9, 0, 0);
        k.process(2, 0, 9, 0, 0);
        k.action(0, 0, 3);
        k.action(1, 0, 4);
        k.poke(2, 0, Asm.CALL);
        for (int p = 0; p < 4; p++) {
            k.window(p, 1);
        }
        k.begin();
        for (int t = 0; t < 12; t++) {
            CHECK.same("TIME", k.about(0), t);
            k.run(1);
        }
        CHECK.same("partition 0 began again", k.partition(0, 3), 3);
        CHECK.same("partition 1 is STOPPED", k.partition(1, 0), 1);
        CHECK.same("partition 2 has nobody READY", k.partition(2, 2), -1);
    }

    private static void greatestPriority() {
        PartitionKernel k = idlers(3, 14, 15, 15, 0);
        k.window(0, 7);
        k.begin();
        k.run(20);
        did("greatest, first", k, 0, 0, 0, 20, 0, 0);
    }

    private static void equalsDoNotTakeTurns() {
        PartitionKernel k = idlers(4, 4, 4);
        k.window(0, 1);
        k.window(1, 1);
        k.begin();
        k.run(40);
        did("the first one goes on", k, 0, 20, 0, 0);
    }

    private static void sleeperTakesTheTick() {
        PartitionKernel k = new PartitionKernel();
        k.process(0, 0, 3, 0, 0);
        k.process(0, 64, 4, 0, 0);
        Asm.place(k, 0, 0, Asm.idle());
        Asm.place(k, 0, 64, Asm.join(Asm.call(2, 3, 0), Asm.words(Asm.idle())));
        k.window(0, 10);
        k.begin();
        k.run(6);
        did("ahead of its time", k, 0, 2, 4);
        k.run(1);
        did("at its time", k, 0, 2, 5);
    }

    private static void nobodyReady() {
        PartitionKernel k = new PartitionKernel();
        k.process(0, 0, 3, 0, 0);
        k.poke(0, 0, Asm.CALL);
        k.window(0, 1);
        k.window(1, 1);
        k.begin();
        CHECK.same("the only instruction", k.run(2), 1);
        CHECK.same("a DORMANT one, and no process at all", k.run(100), 0);
        CHECK.same("no error", k.about(1), 0);
        CHECK.same("TIME", k.about(0), 102);
    }

    private static void oneInstructionATick() {
        PartitionKernel k = idlers(3, 3, 4);
        k.window(0, 7);
        k.begin();
        for (int t = 1; t <= 10; t++) {
            CHECK.same("run(1)", k.run(1), 1);
            CHECK.same("in all", k.about(2), t);
        }
    }

    /** Four processes of one PRIORITY that fall asleep one after the other in the first window. */
    private static PartitionKernel sleepers(int... spans) {
        PartitionKernel k = new PartitionKernel();
        for (int n = 0; n < spans.length; n++) {
            k.process(0, 64 * n, 5, 0, 0);
            Asm.place(k, 0, 64 * n, Asm.join(Asm.call(2, spans[n], 0), Asm.call(0, 0, 0)));
        }
        k.window(0, 4 * spans.length);
        k.window(1, 50);
        k.begin();
        k.run(4 * spans.length);
        return k;
    }

    private static void order(String what, PartitionKernel k, int... numbers) {
        for (int number : numbers) {
            int before = k.state(0, number, 6);
            k.run(1);
            CHECK.same(what + ": turn of " + number, k.state(0, number, 6), before + 1);
            k.run(3);
            CHECK.same(what + ": end of " + number, k.state(0, number, 0), 0);
        }
    }

    private static void sleeperWakesAtItsTime() {
        PartitionKernel k = new PartitionKernel();
        k.process(0, 0, 5, 0, 0);
        Asm.place(k, 0, 0, Asm.join(Asm.call(2, 4, 0), Asm.words(Asm.idle())));
        k.window(0, 20);
        k.begin();
        k.run(4);
        CHECK.same("it waits for 7", k.state(0, 0, 4), 7);
        CHECK.same("nothing at 4, 5, 6", k.run(3), 0);
        CHECK.same("it waits still", k.state(0, 0, 0), 2);
        CHECK.same("its instruction at 7", k.run(1), 1);
        CHECK.same("it is READY", k.state(0, 0, 0), 1);
    }

    private static void sleepersByTime() {
        // They wait from 3, 7, 11, 15 on: for 40, 30, 32, 35.
        PartitionKernel k = sleepers(37, 23, 21, 20);
        k.run(50);
        int[] times = {40, 30, 32, 35};
        for (int n = 0; n < 4; n++) {
            CHECK.same("time of " + n, k.state(0, n, 4), times[n]);
        }
        order("by times", k, 1, 2, 3, 0);
        PartitionKernel back = sleepers(47, 42, 37, 32);
        back.run(50);
        order("by times, against the numbers", back, 3, 2, 1, 0);
    }

    private static void sleepersByNumber() {
        PartitionKernel same = sleepers(47, 43, 39, 35);
        same.run(50);
        for (int n = 0; n < 4; n++) {
            CHECK.same("time of " + n, same.state(0, n, 4), 50);
        }
        order("by numbers", same, 0, 1, 2, 3);
        // They wait for 40, 30, 30, 35.
        PartitionKernel mixed = sleepers(37, 23, 19, 20);
        mixed.run(50);
        order("by times, then by numbers", mixed, 1, 2, 3, 0);
    }

    private static void eightWake() {
        PartitionKernel k = sleepers(31, 31, 31, 31, 31, 31, 31, 31);
        k.run(50);
        order("eight by their times", k, 0, 1, 2, 3, 4, 5, 6, 7);
    }

    private static void eightLate() {
        PartitionKernel late = new PartitionKernel();
        for (int n = 0; n < 8; n++) {
            late.process(0, 0, n, 0, 8 - n);
        }
        late.poke(0, 0, Asm.idle());
        late.window(1, 10);
        late.window(0, 10);
        late.begin();
        CHECK.same("the eighth is the greatest", late.partition(0, 2), 7);
        late.run(11);
        CHECK.same("eight are too late", late.about(1), 8);
        for (int n = 0; n < 8; n++) {
            CHECK.same("by numbers", late.error(7 - n, 2), n);
        }
        did("the eighth", late, 0, 0, 0, 0, 0, 0, 0, 0, 1);
    }

    private static void sleepersStandBehind() {
        PartitionKernel k = new PartitionKernel();
        k.process(0, 0, 5, 0, 0);
        k.process(0, 64, 5, 0, 0);
        Asm.place(k, 0, 0, Asm.join(Asm.call(2, 0, 0), Asm.words(Asm.idle())));
        Asm.place(k, 0, 64, Asm.idle());
        k.window(0, 9);
        k.begin();
        k.run(4);
        CHECK.same("it waits for now", k.state(0, 0, 4), 3);
        k.run(1);
        CHECK.same("it is READY again", k.state(0, 0, 0), 1);
        did("but behind the other", k, 0, 4, 1);
        k.run(5);
        did("and stays there", k, 0, 4, 6);
    }

    private static void sleeperWakesInItsWindowAlone() {
        PartitionKernel k = sleepers(1);
        k.run(49);
        CHECK.same("its time is long past", k.state(0, 0, 0), 2);
        k.run(1);
        CHECK.same("its window is next", k.about(3), 0);
        CHECK.same("it still waits", k.state(0, 0, 0), 2);
        k.run(1);
        CHECK.same("it is READY", k.state(0, 0, 0), 1);
        did("and did its instruction", k, 0, 5);
    }

    private static PartitionKernel late(int deadline, int... program) {
        PartitionKernel k = new PartitionKernel();
        k.process(0, 0, 5, 0, deadline);
        Asm.place(k, 0, 0, program);
        k.window(0, 20);
        k.begin();
        return k;
    }

    private static void dueIsStrict() {
        PartitionKernel k = late(5, Asm.idle());
        k.run(6);
        CHECK.same("DUE 5 at 5 is in time", k.about(1), 0);
        CHECK.same("DUE", k.state(0, 0, 3), 5);
        CHECK.same("the tick's instruction is done too", k.run(1), 1);
        CHECK.same("at 6 it is not", k.about(1), 1);
        CHECK.same("time", k.error(0, 0), 6);
        CHECK.same("kind", k.error(0, 3), 2);
    }

    private static void dueOnce() {
        PartitionKernel k = late(5, Asm.idle());
        k.run(7);
        CHECK.same("DUE is none", k.state(0, 0, 3), -1);
        CHECK.same("action 0 leaves PC", k.state(0, 0, 1), 0);
        k.run(100);
        CHECK.same("once alone", k.about(1), 1);
    }

    private static void dueOfASleeper() {
        PartitionKernel k = late(5, Asm.call(2, 300, 0));
        k.run(7);
        CHECK.same("too late", k.error(0, 3), 2);
        CHECK.same("waits on", k.state(0, 0, 0), 2);
        CHECK.same("for its time", k.state(0, 0, 4), 303);
        CHECK.same("PC", k.state(0, 0, 1), 16);
    }

    private static void dueOfAWaiter() {
        PartitionKernel k = late(5, Asm.call(6, 1, 0));
        k.run(7);
        CHECK.same("too late", k.error(0, 3), 2);
        CHECK.same("waits on", k.state(0, 0, 0), 3);
        CHECK.same("for it", k.state(0, 0, 5), 1);
    }

    /** It wakes at 6, when its DUE is past: action 1 takes it before it can do anything. */
    private static void dueOfOneThatWoke() {
        PartitionKernel k = late(5, Asm.call(2, 3, 0));
        k.action(0, 2, 1);
        CHECK.same("no instruction at 6", k.run(7), 4);
        CHECK.same("too late", k.error(0, 3), 2);
        CHECK.same("at", k.error(0, 0), 6);
        CHECK.same("DORMANT", k.state(0, 0, 0), 0);
        CHECK.same("waits for no time", k.state(0, 0, 4), -1);
    }

    /** In the tick 9 process 0 is too late and process 1 wakes; they have one PRIORITY by then. */
    private static PartitionKernel wakesWhenLate(int action) {
        PartitionKernel k = new PartitionKernel();
        k.process(0, 0, 5, 0, 8);
        k.process(0, 64, 6, 0, 0);
        Asm.place(k, 0, 0, Asm.join(Asm.call(4, 1, 5), Asm.words(Asm.idle())));
        Asm.place(k, 0, 64, Asm.li(17, 2), Asm.li(10, 7), Asm.CALL, Asm.idle());
        k.action(0, 2, action);
        k.window(0, 20);
        k.begin();
        k.run(9);
        CHECK.same("it sleeps", k.state(0, 1, 4), 9);
        CHECK.same("its PRIORITY", k.state(0, 1, 2), 5);
        k.run(1);
        CHECK.same("too late", k.error(0, 0), 9);
        return k;
    }

    private static void wakesAheadOfDue() {
        PartitionKernel k = wakesWhenLate(2);
        did("who BEGINS stands behind who woke", k, 0, 6, 4);
        PartitionKernel stops = wakesWhenLate(4);
        CHECK.same("STOPPED", stops.partition(0, 0), 1);
        CHECK.same("but awake", stops.state(0, 1, 0), 1);
    }

    private static void dueOfADormantOne() {
        PartitionKernel k = late(5, Asm.call(0, 0, 0));
        k.run(40);
        CHECK.same("never too late", k.about(1), 0);
    }

    private static void dueWaitsForItsWindow() {
        PartitionKernel k = new PartitionKernel();
        k.process(0, 0, 5, 0, 1);
        k.poke(0, 0, Asm.idle());
        k.window(0, 2);
        k.window(1, 20);
        k.begin();
        k.run(22);
        CHECK.same("none in another's window", k.about(1), 0);
        k.run(1);
        CHECK.same("in its own", k.error(0, 0), 22);
    }

    /** Three idle processes that are too late at 4, 2 and 4. */
    private static PartitionKernel lateOnes(int action) {
        PartitionKernel k = new PartitionKernel();
        k.process(0, 0, 5, 0, 3);
        k.process(0, 0, 9, 0, 1);
        k.process(0, 0, 5, 0, 3);
        k.process(0, 0, 1, 0, 0);
        k.poke(0, 0, Asm.idle());
        k.window(1, 4);
        k.window(0, 20);
        k.action(0, 2, action);
        k.begin();
        k.run(4);
        CHECK.same("none in another's window", k.about(1), 0);
        return k;
    }

    private static void dueByNumbersBeforeTheInstruction() {
        PartitionKernel k = lateOnes(0);
        k.run(1);
        CHECK.same("three", k.about(1), 3);
        for (int n = 0; n < 3; n++) {
            CHECK.same("by numbers", k.error(2 - n, 2), n);
            CHECK.same("at the same time", k.error(2 - n, 0), 4);
        }
        did("then an instruction", k, 0, 0, 1, 0, 0);
    }

    private static void dueThatBeginsStandsBehind() {
        PartitionKernel k = new PartitionKernel();
        k.process(0, 0, 5, 0, 3);
        k.process(0, 0, 5, 0, 0);
        Asm.place(k, 0, 0, Asm.addi(5, 5, 1), Asm.jal(0, -4));
        k.window(0, 20);
        k.action(0, 2, 2);
        k.begin();
        k.run(4);
        did("ahead", k, 0, 4, 0);
        k.run(1);
        did("it began again and stands behind", k, 0, 4, 1);
        CHECK.same("x5", k.register(0, 0, 5), 0);
        CHECK.same("RELEASE", k.state(0, 0, 7), 4);
        CHECK.same("DUE", k.state(0, 0, 3), 7);
        k.run(4);
        CHECK.same("too late again", k.about(1), 2);
        CHECK.same("at", k.error(0, 0), 8);
    }

    private static void dueThatRestsLetsOthersWork() {
        PartitionKernel k = lateOnes(1);
        CHECK.same("one instruction", k.run(1), 1);
        CHECK.same("three errors", k.about(1), 3);
        for (int n = 0; n < 3; n++) {
            CHECK.same("DORMANT", k.state(0, n, 0), 0);
        }
        did("of the one without a DEADLINE", k, 0, 0, 0, 0, 1);
    }

    private static void dueThatBeginsAllEndsTheTick() {
        PartitionKernel k = lateOnes(3);
        CHECK.same("no instruction", k.run(1), 0);
        CHECK.same("TIME", k.about(0), 5);
        CHECK.same("one error", k.about(1), 1);
        CHECK.same("of the first", k.error(0, 2), 0);
        CHECK.same("began again", k.partition(0, 3), 1);
        CHECK.same("DUE", k.state(0, 0, 3), 7);
        CHECK.same("DUE", k.state(0, 1, 3), 5);
        CHECK.same("DUE", k.state(0, 2, 3), 7);
        CHECK.same("an instruction in the next tick", k.run(1), 1);
    }

    private static void dueThatStopsEndsTheTick() {
        PartitionKernel k = lateOnes(4);
        CHECK.same("no instruction", k.run(1), 0);
        CHECK.same("TIME", k.about(0), 5);
        CHECK.same("one error", k.about(1), 1);
        CHECK.same("STOPPED", k.partition(0, 0), 1);
        CHECK.same("DUE is none", k.state(0, 0, 3), -1);
        CHECK.same("the others' DUE stays", k.state(0, 1, 3), 1);
        CHECK.same("no instruction later", k.run(100), 0);
    }

    private TickTest() {
    }
}
