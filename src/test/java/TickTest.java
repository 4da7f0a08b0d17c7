/** The term of a TICK: whose it is, who wakes, who is too late, who does the instruction. */
final class TickTest {
    private static final Check CHECK = new Check("TickTest");

    public static void main(String[] args) {
        windows();
        greatestPriority();
        equalsDoNotTakeTurns();
        sleepersByTimeThenNumber();
        fullPartition();
        sleepersStandBehind();
        sleeperWakesInItsWindowAlone();
        semaphoreStandsBehind();
        dueIsStrict();
        dueOfThoseWhoWait();
        dueByNumbersBeforeTheInstruction();
        dueThatBeginsStandsBehind();
        dueThatRestsLetsOthersWork();
        dueThatEndsTheTick();
        CHECK.finish();
    }

    private static PartitionKernel idlers(int... priorities) {
        PartitionKernel k = new PartitionKernel();
        for (int priority : priorities) {
            k.process(0, 0, priority, 0, 0);
        }
        k.poke(0, 0, Asm.idle());
        return k;
    }

    private static void did(String when, PartitionKernel k, int partition, int... due) {
        for (int n = 0; n < due.length; n++) {
            CHECK.same(when + ": instructions of " + n, k.state(partition, n, 6), due[n]);
        }
    }

    private static void windows() {
        PartitionKernel k = new PartitionKernel();
        for (int p = 0; p < 4; p++) {
            k.process(p, 0, p, 0, 0);
            k.poke(p, 0, Asm.addi(5, 5, 1));
            k.poke(p, 4, Asm.jal(0, -4));
        }
        k.window(3, 2);
        k.window(1, 4);
        k.window(3, 6);
        k.begin();
        CHECK.same("run", k.run(120), 120);
        did("by windows", k, 3, 80);
        did("by windows", k, 1, 40);
        did("no window", k, 0, 0);
        did("no window", k, 2, 0);
        CHECK.same("READY without a window", k.state(2, 0, 0), 1);
        CHECK.same("x5", k.register(3, 0, 5), 40);
    }

    private static void greatestPriority() {
        PartitionKernel k = idlers(3, 14, 15, 15, 0);
        k.window(0, 7);
        k.begin();
        k.run(20);
        did("greatest, first", k, 0, 0, 0, 20, 0, 0);
    }

    private static void equalsDoNotTakeTurns() {
        PartitionKernel k = idlers(4, 4, 4);
        k.window(0, 1);
        k.window(1, 1);
        k.begin();
        k.run(40);
        did("the first one goes on", k, 0, 20, 0, 0);
    }

    /** Four processes of one PRIORITY that fall asleep one after the other in the first window. */
    private static PartitionKernel sleepers(int... spans) {
        PartitionKernel k = new PartitionKernel();
        for (int n = 0; n < spans.length; n++) {
            k.process(0, 64 * n, 5, 0, 0);
            Asm.place(k, 0, 64 * n, Asm.join(Asm.call(2, spans[n], 0), Asm.call(0, 0, 0)));
        }
        k.window(0, 4 * spans.length);
        k.window(1, 50);
        k.begin();
        k.run(4 * spans.length);
        return k;
    }

    private static void order(String what, PartitionKernel k, int... numbers) {
        for (int number : numbers) {
            int before = k.state(0, number, 6);
            k.run(1);
            CHECK.same(what + ": turn of " + number, k.state(0, number, 6), before + 1);
            k.run(3);
            CHECK.same(what + ": end of " + number, k.state(0, number, 0), 0);
        }
    }

    private static void sleepersByTimeThenNumber() {
        // They wait from 3, 7, 11, 15 on: for 40, 30, 30, 35.
        PartitionKernel k = sleepers(37, 23, 19, 20);
        k.run(50);
        CHECK.same("time of 0", k.state(0, 0, 4), 40);
        CHECK.same("time of 1", k.state(0, 1, 4), 30);
        CHECK.same("time of 2", k.state(0, 2, 4), 30);
        CHECK.same("time of 3", k.state(0, 3, 4), 35);
        order("earlier first, then by numbers", k, 1, 2, 3, 0);
        PartitionKernel same = sleepers(47, 43, 39, 35);
        same.run(50);
        order("by numbers", same, 0, 1, 2, 3);
        PartitionKernel back = sleepers(47, 42, 37, 32);
        back.run(50);
        order("by times alone", back, 3, 2, 1, 0);
    }

    /** Eight sleepers of different times, and eight that are too late: a full partition. */
    private static void fullPartition() {
        PartitionKernel k = sleepers(31, 31, 31, 31, 31, 31, 31, 31);
        k.run(50);
        order("eight by their times", k, 0, 1, 2, 3, 4, 5, 6, 7);
        PartitionKernel late = new PartitionKernel();
        for (int n = 0; n < 8; n++) {
            late.process(0, 0, n, 0, 8 - n);
        }
        late.poke(0, 0, Asm.idle());
        late.window(1, 10);
        late.window(0, 10);
        late.begin();
        CHECK.same("the eighth is the greatest", late.partition(0, 2), 7);
        late.run(11);
        CHECK.same("eight are too late", late.about(1), 8);
        for (int n = 0; n < 8; n++) {
            CHECK.same("by numbers", late.error(7 - n, 2), n);
        }
        did("the eighth", late, 0, 0, 0, 0, 0, 0, 0, 0, 1);
    }

    private static void sleepersStandBehind() {
        PartitionKernel k = new PartitionKernel();
        k.process(0, 0, 5, 0, 0);
        k.process(0, 64, 5, 0, 0);
        Asm.place(k, 0, 0, Asm.join(Asm.call(2, 0, 0), Asm.words(Asm.idle())));
        Asm.place(k, 0, 64, Asm.idle());
        k.window(0, 9);
        k.begin();
        k.run(4);
        CHECK.same("it waits for now", k.state(0, 0, 4), 3);
        k.run(1);
        CHECK.same("it is READY again", k.state(0, 0, 0), 1);
        did("but behind the other", k, 0, 4, 1);
        k.run(5);
        did("and stays there", k, 0, 4, 6);
    }

    private static void sleeperWakesInItsWindowAlone() {
        PartitionKernel k = sleepers(1);
        k.run(49);
        CHECK.same("its time is long past", k.state(0, 0, 0), 2);
        k.run(1);
        CHECK.same("its window is next", k.about(3), 0);
        CHECK.same("it still waits", k.state(0, 0, 0), 2);
        k.run(1);
        CHECK.same("it is READY", k.state(0, 0, 0), 1);
        did("and did its instruction", k, 0, 5);
    }

    private static void semaphoreStandsBehind() {
        PartitionKernel k = new PartitionKernel();
        k.process(0, 0, 5, 0, 0);
        k.process(0, 64, 5, 0, 0);
        k.process(0, 128, 5, 0, 0);
        Asm.place(k, 0, 0, Asm.join(Asm.call(6, 0, 0), Asm.words(Asm.idle())));
        Asm.place(k, 0, 64, Asm.join(Asm.call(7, 0, 0), Asm.call(0, 0, 0)));
        Asm.place(k, 0, 128, Asm.idle());
        k.window(0, 9);
        k.begin();
        k.run(8);
        CHECK.same("it is READY", k.state(0, 0, 0), 1);
        k.run(9);
        did("behind all who were", k, 0, 4, 8, 5);
    }

    private static PartitionKernel late(int deadline, int... program) {
        PartitionKernel k = new PartitionKernel();
        k.process(0, 0, 5, 0, deadline);
        Asm.place(k, 0, 0, program);
        k.window(0, 20);
        k.begin();
        return k;
    }

    private static void dueIsStrict() {
        PartitionKernel k = late(5, Asm.idle());
        k.run(6);
        CHECK.same("DUE 5 at 5 is in time", k.about(1), 0);
        CHECK.same("DUE", k.state(0, 0, 3), 5);
        CHECK.same("the tick's instruction is done too", k.run(1), 1);
        CHECK.same("at 6 it is not", k.about(1), 1);
        CHECK.same("time", k.error(0, 0), 6);
        CHECK.same("kind", k.error(0, 3), 2);
        CHECK.same("DUE is none", k.state(0, 0, 3), -1);
        CHECK.same("action 0 leaves PC", k.state(0, 0, 1), 0);
        k.run(100);
        CHECK.same("once alone", k.about(1), 1);
    }

    private static void dueOfThoseWhoWait() {
        PartitionKernel k = late(5, Asm.call(2, 300, 0));
        k.run(7);
        CHECK.same("asleep and too late", k.error(0, 3), 2);
        CHECK.same("waits on", k.state(0, 0, 0), 2);
        CHECK.same("for its time", k.state(0, 0, 4), 303);
        CHECK.same("PC", k.state(0, 0, 1), 16);
        PartitionKernel s = late(5, Asm.call(6, 1, 0));
        s.run(7);
        CHECK.same("at a semaphore and too late", s.error(0, 3), 2);
        CHECK.same("waits on", s.state(0, 0, 0), 3);
        CHECK.same("for it", s.state(0, 0, 5), 1);
        PartitionKernel dormant = late(5, Asm.call(0, 0, 0));
        dormant.run(40);
        CHECK.same("a DORMANT one is never too late", dormant.about(1), 0);
    }

    /** Three idle processes that are too late at 4, 2 and 4. */
    private static PartitionKernel lateOnes(int action) {
        PartitionKernel k = new PartitionKernel();
        k.process(0, 0, 5, 0, 3);
        k.process(0, 0, 9, 0, 1);
        k.process(0, 0, 5, 0, 3);
        k.process(0, 0, 1, 0, 0);
        k.poke(0, 0, Asm.idle());
        k.window(1, 4);
        k.window(0, 20);
        k.action(0, 2, action);
        k.begin();
        k.run(4);
        CHECK.same("none in another's window", k.about(1), 0);
        return k;
    }

    private static void dueByNumbersBeforeTheInstruction() {
        PartitionKernel k = lateOnes(0);
        k.run(1);
        CHECK.same("three", k.about(1), 3);
        for (int n = 0; n < 3; n++) {
            CHECK.same("by numbers", k.error(2 - n, 2), n);
            CHECK.same("at the same time", k.error(2 - n, 0), 4);
        }
        did("then an instruction", k, 0, 0, 1, 0, 0);
    }

    private static void dueThatBeginsStandsBehind() {
        PartitionKernel k = new PartitionKernel();
        k.process(0, 0, 5, 0, 3);
        k.process(0, 0, 5, 0, 0);
        Asm.place(k, 0, 0, Asm.addi(5, 5, 1), Asm.jal(0, -4));
        k.window(0, 20);
        k.action(0, 2, 2);
        k.begin();
        k.run(4);
        did("ahead", k, 0, 4, 0);
        k.run(1);
        did("it began again and stands behind", k, 0, 4, 1);
        CHECK.same("x5", k.register(0, 0, 5), 0);
        CHECK.same("RELEASE", k.state(0, 0, 7), 4);
        CHECK.same("DUE", k.state(0, 0, 3), 7);
        k.run(4);
        CHECK.same("too late again", k.about(1), 2);
        CHECK.same("at", k.error(0, 0), 8);
    }

    private static void dueThatRestsLetsOthersWork() {
        PartitionKernel k = lateOnes(1);
        CHECK.same("one instruction", k.run(1), 1);
        CHECK.same("three errors", k.about(1), 3);
        for (int n = 0; n < 3; n++) {
            CHECK.same("DORMANT", k.state(0, n, 0), 0);
        }
        did("of the one without a DEADLINE", k, 0, 0, 0, 0, 1);
    }

    private static void dueThatEndsTheTick() {
        PartitionKernel k = lateOnes(3);
        CHECK.same("no instruction", k.run(1), 0);
        CHECK.same("TIME", k.about(0), 5);
        CHECK.same("one error", k.about(1), 1);
        CHECK.same("of the first", k.error(0, 2), 0);
        CHECK.same("began again", k.partition(0, 3), 1);
        CHECK.same("DUE", k.state(0, 0, 3), 7);
        CHECK.same("DUE", k.state(0, 1, 3), 5);
        CHECK.same("DUE", k.state(0, 2, 3), 7);
        PartitionKernel stops = lateOnes(4);
        CHECK.same("no instruction", stops.run(1), 0);
        CHECK.same("TIME", stops.about(0), 5);
        CHECK.same("one error", stops.about(1), 1);
        CHECK.same("stopped", stops.partition(0, 0), 1);
        CHECK.same("DUE is none", stops.state(0, 0, 3), -1);
        CHECK.same("the others' DUE stays", stops.state(0, 1, 3), 1);
        stops.run(100);
        CHECK.same("nothing happens in it", stops.about(1), 1);
        CHECK.same("TIME goes on", stops.about(0), 105);
    }

    private TickTest() {
    }
}
