import java.util.ArrayDeque;

/** The term of CALLS, sentence by sentence: each of them by its number, its answers and its edges. */
final class CallsTest {
    private static final Check CHECK = new Check("CallsTest");
    private static final int LEAST = Integer.MIN_VALUE;
    private static final int GREATEST = Integer.MAX_VALUE;

    public static void main(String[] args) {
        CHECK.sentence("the answer comes to x10, PC is 4 more", CallsTest::answerAndPc);
        CHECK.sentence("0: it is DORMANT (no answer)", CallsTest::call0Dormant);
        waits();
        processes();
        CHECK.sentence("5: TIME", CallsTest::call5Time);
        semaphores();
        channels();
        CHECK.sentence("10: error 3 (PC stays at the call)", CallsTest::call10Raise);
        CHECK.sentence("Others: error 0", CallsTest::otherCalls);
        CHECK.finish();
    }

    private static void waits() {
        CHECK.sentence("1: with a PERIOD", CallsTest::call1Release);
        CHECK.sentence("1: a RELEASE that is past", CallsTest::call1BehindItsTime);
        CHECK.sentence("1: DUE (if there is a DEADLINE)", CallsTest::call1WithoutDeadline);
        CHECK.sentence("1: a new DUE behind one that was none", CallsTest::call1BehindError2);
        CHECK.sentence("1: else 1", CallsTest::call1WithoutPeriod);
        CHECK.sentence("2: it WAITS for now + a", CallsTest::call2Wait);
        CHECK.sentence("2: a 0", CallsTest::call2Nought);
        CHECK.sentence("2: a 100000", CallsTest::call2Greatest);
        CHECK.sentence("2: a not 0 .. 100000: else 1", CallsTest::call2Else);
    }

    private static void processes() {
        CHECK.sentence("3: process a, if DORMANT, BEGINS", CallsTest::call3Begin);
        CHECK.sentence("3: else 1: it is READY", CallsTest::call3OfReady);
        CHECK.sentence("3: else 1: it WAITS for a time", () -> call3OfWaiting(Asm.call(2, 90, 0), 2));
        CHECK.sentence("3: else 1: it WAITS for a semaphore", () -> call3OfWaiting(Asm.call(6, 1, 0), 3));
        CHECK.sentence("3: else 1: it is the caller itself", CallsTest::call3OfItself);
        CHECK.sentence("3: also if there is none: 1", CallsTest::call3OfNone);
        CHECK.sentence("4: process a has PRIORITY b", CallsTest::call4Priority);
        CHECK.sentence("4: of any STATE", CallsTest::call4OfAnyState);
        CHECK.sentence("4: nobody's place changes", CallsTest::call4PlaceInLine);
        CHECK.sentence("4: b 0 and 15", CallsTest::call4Edges);
        CHECK.sentence("4: 1 if b is not 0 .. 15", CallsTest::call4OfOtherPriority);
        CHECK.sentence("4: 1 if there is none", CallsTest::call4OfNone);
    }

    private static void semaphores() {
        CHECK.sentence("6: the count is above 0: one less", CallsTest::call6AboveNought);
        CHECK.sentence("6: else it WAITS for it, the answer is 0 then, too", CallsTest::call6Waits);
        CHECK.sentence("6: semaphores 0 .. 3", CallsTest::call6Each);
        CHECK.sentence("6: of this partition", CallsTest::semaphoresOfThisPartition);
        CHECK.sentence("6: 1 if there is none", () -> noSemaphore(6));
        CHECK.sentence("7: the one with the greatest PRIORITY, the first to come of these", CallsTest::call7Order);
        CHECK.sentence("7: the first to come, with the PRIORITY of now", CallsTest::call7OrderByPriorityOfNow);
        CHECK.sentence("7: else the count is one more", CallsTest::call7NobodyWaits);
        CHECK.sentence("7: who waits for another semaphore", CallsTest::call7OfAnother);
        CHECK.sentence("7: 1 if there is none", () -> noSemaphore(7));
        CHECK.sentence("7: 1 if it is 1000", CallsTest::call7Greatest);
    }

    private static void channels() {
        CHECK.sentence("8: a SAMPLE: b and TIME are kept", CallsTest::call8Sample);
        CHECK.sentence("8: a QUEUE: b comes to its end", CallsTest::call8Queue);
        CHECK.sentence("8: a QUEUE: 2 if it is full", CallsTest::call8Full);
        CHECK.sentence("8: else 1: not from here", CallsTest::call8NotFromHere);
        CHECK.sentence("8: else 1: no such channel", () -> noChannel(8));
        CHECK.sentence("9: a SAMPLE: 2 if none was sent", CallsTest::call9NoSample);
        CHECK.sentence("9: a SAMPLE: x11 is it, and it stays", CallsTest::call9Sample);
        CHECK.sentence("9: 0 if now is not more than LIMIT behind it, else 3", CallsTest::call9Limits);
        CHECK.sentence("9: LIMIT 0 and 1, in the very next tick", CallsTest::call9NextTick);
        CHECK.sentence("9: LIMIT 100000", CallsTest::call9GreatestLimit);
        CHECK.sentence("9: a QUEUE: 2 if it is empty", CallsTest::call9Empty);
        CHECK.sentence("8, 9: a QUEUE's words turn round", CallsTest::call9Queue);
        CHECK.sentence("9: else 1: not to here", CallsTest::call9NotToHere);
        CHECK.sentence("9: else 1: no such channel", () -> noChannel(9));
    }

    private static PartitionKernel one(int period, int deadline, int... program) {
        PartitionKernel k = new PartitionKernel();
        k.process(0, 0, 5, period, deadline);
        k.window(0, 10);
        Asm.place(k, 0, 0, program);
        return k;
    }

    private static void answer(String what, PartitionKernel k, int due) {
        CHECK.same(what + ": answer", k.register(0, 0, 10), due);
        CHECK.same(what + ": errors", k.about(1), 0);
    }

    /** One process that makes a call with any a and b in its fourth tick, and then stands still. */
    private static PartitionKernel caller(int call, int a, int b) {
        PartitionKernel k = one(0, 0, Asm.li(17, call), Asm.load(2, 10, 0, 1016), Asm.load(2, 11, 0, 1020), Asm.CALL,
            Asm.idle());
        k.poke(0, 1016, a);
        k.poke(0, 1020, b);
        return k;
    }

    private static PartitionKernel called(PartitionKernel k) {
        k.begin();
        k.run(4);
        CHECK.same("PC behind the call", k.state(0, 0, 1), 16);
        return k;
    }

    private static void answerAndPc() {
        for (int call = 1; call < 10; call++) {
            PartitionKernel k = called(caller(call, 7, 8));
            answer("call " + call, k, call == 2 ? 0 : call == 5 ? 3 : 1);
            CHECK.same("x11 stays", k.register(0, 0, 11), 8);
            CHECK.same("x17 stays", k.register(0, 0, 17), call);
        }
    }

    private static void call0Dormant() {
        PartitionKernel k = one(0, 90, Asm.call(0, 7, 8));
        k.begin();
        k.run(4);
        answer("call 0 gives none", k, 7);
        CHECK.same("x11 stays", k.register(0, 0, 11), 8);
        CHECK.same("DORMANT", k.state(0, 0, 0), 0);
        CHECK.same("PC behind it", k.state(0, 0, 1), 16);
        CHECK.same("no DUE", k.state(0, 0, 3), -1);
        CHECK.same("RELEASE", k.state(0, 0, 7), 0);
        CHECK.same("nothing more", k.run(200), 0);
        CHECK.same("no error of a DORMANT one", k.about(1), 0);
    }

    private static void call1Release() {
        PartitionKernel k = one(30, 20, Asm.join(Asm.call(1, 9, 0), Asm.words(Asm.jal(0, -4))));
        k.begin();
        k.run(4);
        answer("call 1", k, 0);
        CHECK.same("waits", k.state(0, 0, 0), 2);
        CHECK.same("for RELEASE", k.state(0, 0, 4), 30);
        CHECK.same("RELEASE", k.state(0, 0, 7), 30);
        CHECK.same("DUE", k.state(0, 0, 3), 50);
        k.run(26);
        CHECK.same("still waits", k.state(0, 0, 0), 2);
        CHECK.same("its tick", k.run(1), 1);
        CHECK.same("READY", k.state(0, 0, 0), 1);
        CHECK.same("waits for none", k.state(0, 0, 4), -1);
        k.run(1);
        CHECK.same("next RELEASE", k.state(0, 0, 4), 60);
        CHECK.same("next DUE", k.state(0, 0, 3), 80);
    }

    private static void call1WithoutDeadline() {
        PartitionKernel k = one(30, 0, Asm.call(1, 9, 0));
        k.begin();
        k.run(4);
        answer("call 1", k, 0);
        CHECK.same("no DUE", k.state(0, 0, 3), -1);
        CHECK.same("waits", k.state(0, 0, 4), 30);
    }

    private static void call1BehindError2() {
        PartitionKernel k = one(30, 1, Asm.call(1, 9, 0));
        k.begin();
        k.run(3);
        CHECK.same("too late: DUE is none", k.state(0, 0, 3), -1);
        k.run(1);
        CHECK.same("a new DUE", k.state(0, 0, 3), 31);
    }

    private static void call1WithoutPeriod() {
        PartitionKernel k = one(0, 20, Asm.call(1, 9, 0));
        k.begin();
        k.run(4);
        answer("call 1", k, 1);
        CHECK.same("READY", k.state(0, 0, 0), 1);
        CHECK.same("waits for none", k.state(0, 0, 4), -1);
        CHECK.same("DUE stays", k.state(0, 0, 3), 20);
        CHECK.same("RELEASE stays", k.state(0, 0, 7), 0);
    }

    /** A RELEASE that is past already: it waits for it all the same, and is READY in the next tick. */
    private static void call1BehindItsTime() {
        PartitionKernel k = one(1, 1, Asm.call(1, 9, 0));
        k.begin();
        k.run(3);
        CHECK.same("too late once", k.about(1), 1);
        k.run(1);
        CHECK.same("waits", k.state(0, 0, 0), 2);
        CHECK.same("for a time that is past", k.state(0, 0, 4), 1);
        CHECK.same("DUE", k.state(0, 0, 3), 2);
        CHECK.same("RELEASE", k.state(0, 0, 7), 1);
        CHECK.same("its tick comes at once", k.run(1), 1);
        CHECK.same("too late again", k.about(1), 3);
        CHECK.same("kind 2 ahead of kind 0", k.error(1, 3), 2);
    }

    private static void call2Wait() {
        PartitionKernel k = one(0, 0, Asm.join(Asm.call(2, 3, 0), Asm.words(Asm.idle())));
        k.begin();
        k.run(4);
        answer("call 2", k, 0);
        CHECK.same("waits", k.state(0, 0, 0), 2);
        CHECK.same("for now + a", k.state(0, 0, 4), 6);
        CHECK.same("RELEASE stays", k.state(0, 0, 7), 0);
        CHECK.same("nothing in 4 and 5", k.run(2), 0);
        CHECK.same("in 6", k.run(1), 1);
        CHECK.same("READY", k.state(0, 0, 0), 1);
    }

    private static void call2Nought() {
        PartitionKernel k = called(caller(2, 0, 0));
        answer("call 2", k, 0);
        CHECK.same("it waits", k.state(0, 0, 0), 2);
        CHECK.same("for now", k.state(0, 0, 4), 3);
        CHECK.same("READY in the next tick", k.run(1), 1);
        CHECK.same("READY", k.state(0, 0, 0), 1);
    }

    private static void call2Greatest() {
        PartitionKernel k = called(caller(2, 100000, 0));
        answer("call 2", k, 0);
        CHECK.same("for", k.state(0, 0, 4), 100003);
        for (int n = 0; n < 199; n++) {
            k.run(500);
        }
        CHECK.same("not yet", k.run(499), 0);
        CHECK.same("it waits", k.state(0, 0, 0), 2);
        CHECK.same("TIME", k.about(0), 100003);
        CHECK.same("now", k.run(1), 1);
    }

    private static void call2Else() {
        for (int a : new int[] {-1, 100001, LEAST, GREATEST}) {
            PartitionKernel k = called(caller(2, a, 0));
            answer("call 2 of " + a, k, 1);
            CHECK.same("READY", k.state(0, 0, 0), 1);
            CHECK.same("waits for none", k.state(0, 0, 4), -1);
            CHECK.same("it goes on", k.run(1), 1);
        }
    }

    /** Process 0 sleeps, so that process 1 can do its program, and then makes a call. */
    private static PartitionKernel besides(int call, int a, int b, int... other) {
        PartitionKernel k = one(0, 0, Asm.join(Asm.call(2, 10, 0), Asm.call(call, a, b), Asm.words(Asm.idle())));
        k.process(0, 256, 4, 0, 40);
        Asm.place(k, 0, 256, other);
        k.begin();
        k.run(16);
        return k;
    }

    private static void call3Begin() {
        PartitionKernel k = besides(3, 1, 0, Asm.join(Asm.words(Asm.li(5, 6)), Asm.call(0, 0, 0)));
        CHECK.same("process 1 is DORMANT", k.state(0, 1, 0), 0);
        k.run(1);
        answer("call 3", k, 0);
        CHECK.same("READY", k.state(0, 1, 0), 1);
        CHECK.same("PC", k.state(0, 1, 1), 256);
        CHECK.same("registers", k.register(0, 1, 5), 0);
        CHECK.same("RELEASE", k.state(0, 1, 7), 16);
        CHECK.same("DUE", k.state(0, 1, 3), 56);
        CHECK.same("its instructions go on counting", k.state(0, 1, 6), 5);
    }

    private static void call3OfReady() {
        PartitionKernel k = besides(3, 1, 0, Asm.li(5, 6), Asm.idle());
        CHECK.same("process 1 is READY", k.state(0, 1, 0), 1);
        k.run(1);
        answer("call 3", k, 1);
        CHECK.same("it does not BEGIN", k.register(0, 1, 5), 6);
        CHECK.same("PC", k.state(0, 1, 1), 260);
    }

    private static void call3OfWaiting(int[] waits, int state) {
        PartitionKernel k = besides(3, 1, 0, waits);
        CHECK.same("process 1 WAITS", k.state(0, 1, 0), state);
        k.run(1);
        answer("call 3", k, 1);
        CHECK.same("it WAITS still", k.state(0, 1, 0), state);
        CHECK.same("RELEASE", k.state(0, 1, 7), 0);
    }

    private static void call3OfItself() {
        PartitionKernel k = called(caller(3, 0, 9));
        answer("call 3", k, 1);
        CHECK.same("it does not BEGIN", k.register(0, 0, 11), 9);
    }

    private static void call3OfNone() {
        for (int a : new int[] {-1, 1, 7, 8, LEAST, GREATEST}) {
            PartitionKernel k = caller(3, a, 0);
            for (int n = 0; n < 8; n++) {
                k.process(1, 0, 5, 0, 0);
            }
            called(k);
            answer("call 3 of " + a, k, 1);
            CHECK.same("READY", k.state(0, 0, 0), 1);
        }
    }

    private static void call4Priority() {
        PartitionKernel k = besides(4, 1, 6, Asm.idle());
        CHECK.same("so far", k.state(0, 1, 2), 4);
        k.run(1);
        answer("call 4", k, 0);
        CHECK.same("PRIORITY", k.state(0, 1, 2), 6);
        CHECK.same("its own stays", k.state(0, 0, 2), 5);
        CHECK.same("it is first", k.partition(0, 2), 1);
        CHECK.same("it stays READY", k.state(0, 1, 0), 1);
        PartitionKernel own = called(caller(4, 0, 3));
        answer("call 4 of itself", own, 0);
        CHECK.same("its own", own.state(0, 0, 2), 3);
    }

    private static void call4OfAnyState() {
        int[][] programs = {Asm.call(0, 0, 0), Asm.words(Asm.idle()), Asm.call(2, 900, 0), Asm.call(6, 1, 0)};
        for (int state = 0; state < 4; state++) {
            PartitionKernel k = besides(4, 1, 6, programs[state]);
            k.run(1);
            answer("call 4", k, 0);
            CHECK.same("STATE", k.state(0, 1, 0), state);
            CHECK.same("PRIORITY", k.state(0, 1, 2), 6);
        }
        PartitionKernel k = one(0, 0, Asm.join(Asm.call(4, 1, 2), Asm.call(3, 1, 0)));
        k.process(0, 256, 9, 0, 0);
        Asm.place(k, 0, 256, Asm.CALL);
        k.begin();
        k.run(9);
        CHECK.same("a DORMANT one BEGINS with it", k.state(0, 1, 2), 2);
        CHECK.same("and is READY", k.state(0, 1, 0), 1);
    }

    private static void call4Edges() {
        for (int b : new int[] {0, 15}) {
            PartitionKernel k = besides(4, 1, b, Asm.idle());
            k.run(1);
            answer("call 4 of " + b, k, 0);
            CHECK.same("PRIORITY", k.state(0, 1, 2), b);
        }
    }

    private static void call4OfOtherPriority() {
        for (int b : new int[] {-1, 16, LEAST, GREATEST}) {
            PartitionKernel k = called(caller(4, 0, b));
            answer("call 4 of " + b, k, 1);
            CHECK.same("PRIORITY stays", k.state(0, 0, 2), 5);
        }
    }

    private static void call4OfNone() {
        for (int a : new int[] {-1, 1, 7, 8, LEAST, GREATEST}) {
            for (int b : new int[] {0, 15, 16}) {
                PartitionKernel k = called(caller(4, a, b));
                answer("call 4 of process " + a, k, 1);
                CHECK.same("PRIORITY stays", k.state(0, 0, 2), 5);
            }
        }
    }

    /** A new PRIORITY changes nobody's place in the line of those who are READY. */
    private static void call4PlaceInLine() {
        PartitionKernel k = one(0, 0, Asm.join(Asm.call(4, 0, 3), Asm.words(Asm.idle())));
        k.process(0, 256, 3, 0, 0);
        Asm.place(k, 0, 256, Asm.idle());
        k.begin();
        k.run(4);
        CHECK.same("it came first and is still", k.partition(0, 2), 0);
        k.run(1);
        CHECK.same("its instruction", k.state(0, 0, 6), 5);
    }

    private static void call5Time() {
        PartitionKernel k = one(0, 0, Asm.li(17, 5), Asm.CALL, Asm.jal(0, -4));
        k.window(1, 5);
        k.begin();
        k.run(2);
        answer("call 5", k, 1);
        k.run(14);
        answer("call 5", k, 9);
        CHECK.same("TIME", k.about(0), 16);
        k.run(2);
        answer("call 5", k, 16);
    }

    private static void call6AboveNought() {
        PartitionKernel k = one(0, 0, Asm.join(Asm.call(7, 3, 0), Asm.call(7, 3, 0), Asm.call(6, 3, 0), Asm.call(6, 3, 0)));
        k.begin();
        int[] counts = {1, 2, 1, 0};
        for (int n = 0; n < 4; n++) {
            k.run(4);
            answer("call " + n, k, 0);
            CHECK.same("count", k.partition(0, 7), counts[n]);
            CHECK.same("READY", k.state(0, 0, 0), 1);
        }
    }

    private static void call6Waits() {
        PartitionKernel k = called(caller(6, 3, 0));
        answer("call 6", k, 0);
        CHECK.same("it waits", k.state(0, 0, 0), 3);
        CHECK.same("for it", k.state(0, 0, 5), 3);
        CHECK.same("the count", k.partition(0, 7), 0);
        CHECK.same("it waits on", k.run(100), 0);
        PartitionKernel given = besides(7, 1, 0, Asm.join(Asm.call(6, 1, 0), Asm.words(Asm.idle())));
        CHECK.same("it waits", given.state(0, 1, 0), 3);
        given.run(1);
        CHECK.same("READY", given.state(0, 1, 0), 1);
        CHECK.same("waits for none", given.state(0, 1, 5), -1);
        CHECK.same("its answer", given.register(0, 1, 10), 0);
        CHECK.same("PC behind its call", given.state(0, 1, 1), 272);
    }

    private static void call6Each() {
        for (int a = 0; a < 4; a++) {
            PartitionKernel k = called(caller(6, a, 0));
            CHECK.same("it waits for", k.state(0, 0, 5), a);
            PartitionKernel gives = called(caller(7, a, 0));
            for (int s = 0; s < 4; s++) {
                CHECK.same("count of " + s, gives.partition(0, 4 + s), s == a ? 1 : 0);
            }
        }
    }

    /** Partition 1 gives semaphore 1 while partition 0 waits for its own semaphore 1. */
    private static void semaphoresOfThisPartition() {
        PartitionKernel k = caller(6, 1, 0);
        k.process(1, 0, 5, 0, 0);
        k.window(1, 10);
        Asm.place(k, 1, 0, Asm.call(7, 1, 0));
        k.begin();
        k.run(14);
        CHECK.same("it waits still", k.state(0, 0, 0), 3);
        CHECK.same("the other's count", k.partition(1, 5), 1);
        CHECK.same("its count", k.partition(0, 5), 0);
    }

    private static void noSemaphore(int call) {
        for (int a : new int[] {-1, 4, 5, LEAST, GREATEST}) {
            PartitionKernel k = called(caller(call, a, 0));
            answer("semaphore " + a, k, 1);
            CHECK.same("READY", k.state(0, 0, 0), 1);
            CHECK.same("waits for none", k.state(0, 0, 5), -1);
            for (int s = 4; s < 8; s++) {
                CHECK.same("count", k.partition(0, s), 0);
            }
        }
    }

    /** Processes 1, 2, 3 wait for semaphore 2, process 4 for semaphore 1; process 0 gives. */
    private static PartitionKernel waiters(int... priorities) {
        PartitionKernel k = one(0, 0, Asm.join(Asm.call(2, 30, 0), Asm.call(7, 2, 0), Asm.call(7, 2, 0),
            Asm.call(7, 2, 0), Asm.call(7, 2, 0), Asm.words(Asm.idle())));
        for (int n = 0; n < priorities.length; n++) {
            k.process(0, 256, priorities[n], 0, 0);
        }
        k.process(0, 512, 1, 0, 0);
        Asm.place(k, 0, 256, Asm.join(Asm.call(6, 2, 0), Asm.words(Asm.idle())));
        Asm.place(k, 0, 512, Asm.join(Asm.call(6, 1, 0), Asm.words(Asm.idle())));
        k.begin();
        return k;
    }

    private static void ready(String when, PartitionKernel k, int... due) {
        for (int n = 0; n < due.length; n++) {
            CHECK.same(when + ": state of " + (n + 1), k.state(0, n + 1, 0), due[n]);
        }
    }

    private static void call7Order() {
        PartitionKernel k = waiters(2, 3, 3);
        k.run(33);
        ready("all wait", k, 3, 3, 3, 3);
        k.run(4);
        ready("the greatest, the first of these", k, 3, 1, 3, 3);
        answer("call 7 that wakes", k, 0);
        CHECK.same("waits for none", k.state(0, 2, 5), -1);
        k.run(4);
        ready("the second", k, 3, 1, 1, 3);
        k.run(4);
        ready("the last", k, 1, 1, 1, 3);
        CHECK.same("the count is 0 so far", k.partition(0, 6), 0);
    }

    private static void call7NobodyWaits() {
        PartitionKernel k = called(caller(7, 2, 0));
        answer("call 7", k, 0);
        CHECK.same("the count is one more", k.partition(0, 6), 1);
        CHECK.same("READY", k.state(0, 0, 0), 1);
    }

    private static void call7OfAnother() {
        PartitionKernel k = waiters(2, 3, 3);
        k.run(49);
        ready("who waits for semaphore 1 waits on", k, 1, 1, 1, 3);
        answer("call 7", k, 0);
        CHECK.same("the count is one more", k.partition(0, 6), 1);
        CHECK.same("the other's count", k.partition(0, 5), 0);
    }

    /** Process 1 comes to the semaphore behind process 2, and has the same PRIORITY by then. */
    private static void call7OrderByPriorityOfNow() {
        PartitionKernel k = waiters(2, 3, 1);
        k.poke(0, 16, Asm.li(17, 4));
        k.poke(0, 20, Asm.li(10, 1));
        k.poke(0, 24, Asm.li(11, 3));
        k.run(37);
        CHECK.same("PRIORITY", k.state(0, 1, 2), 3);
        ready("all wait", k, 3, 3, 3, 3);
        k.run(4);
        ready("the first to come, not the first by number", k, 3, 1, 3, 3);
        k.run(4);
        ready("then the other", k, 1, 1, 3, 3);
    }

    private static void call7Greatest() {
        PartitionKernel k = one(0, 0, Asm.li(17, 7), Asm.li(10, 0), Asm.CALL, Asm.jal(0, -8));
        k.begin();
        k.run(3);
        k.run(500);
        k.run(500);
        k.run(500);
        k.run(500);
        k.run(500);
        k.run(494);
        CHECK.same("999", k.partition(0, 4), 999);
        answer("999", k, 0);
        k.run(3);
        CHECK.same("1000", k.partition(0, 4), 1000);
        answer("1000", k, 0);
        k.run(3);
        CHECK.same("no more", k.partition(0, 4), 1000);
        answer("no more", k, 1);
    }

    private static void call8Sample() {
        PartitionKernel k = one(0, 0, Asm.join(Asm.call(8, 1, 51), Asm.call(8, 1, 52)));
        k.channel(true, 0, 1, 2);
        k.channel(false, 0, 2, 5);
        k.begin();
        for (int n = 0; n < 2; n++) {
            k.run(4);
            answer("call 8", k, 0);
            CHECK.same("it", k.word(1, 0), 51 + n);
            CHECK.same("its time", k.traffic(1, 1), 3 + 4 * n);
            CHECK.same("one", k.traffic(1, 0), 1);
        }
        CHECK.same("another channel", k.traffic(0, 0), 0);
    }

    private static void call8Queue() {
        for (int b : new int[] {0, -1, LEAST, GREATEST}) {
            PartitionKernel k = caller(8, 0, b);
            k.channel(true, 0, 1, 2);
            called(k);
            answer("call 8", k, 0);
            CHECK.same("words", k.traffic(0, 0), 1);
            CHECK.same("it", k.word(0, 0), b);
            CHECK.same("x11 stays", k.register(0, 0, 11), b);
        }
    }

    private static void call8Full() {
        PartitionKernel k = one(0, 0, Asm.join(Asm.call(8, 0, 41), Asm.call(8, 0, 42), Asm.call(8, 0, 43)));
        k.channel(true, 0, 1, 2);
        k.begin();
        int[] answers = {0, 0, 2};
        for (int n = 0; n < 3; n++) {
            k.run(4);
            answer("call 8, " + n, k, answers[n]);
        }
        CHECK.same("words", k.traffic(0, 0), 2);
        CHECK.same("first", k.word(0, 0), 41);
        CHECK.same("second", k.word(0, 1), 42);
    }

    private static void call8NotFromHere() {
        for (int from = 1; from < 4; from++) {
            for (boolean queue : new boolean[] {true, false}) {
                PartitionKernel k = caller(8, 0, 9);
                k.channel(queue, from, 0, 2);
                called(k);
                answer("call 8", k, 1);
                CHECK.same("no word", k.traffic(0, 0), 0);
            }
        }
    }

    private static void noChannel(int call) {
        for (int a : new int[] {-1, 2, 7, 8, 9, LEAST, GREATEST}) {
            PartitionKernel k = caller(call, a, 6);
            k.channel(true, 0, 0, 2);
            k.channel(false, 0, 0, 2);
            called(k);
            answer("channel " + a, k, 1);
            CHECK.same("x11 stays", k.register(0, 0, 11), 6);
            CHECK.same("no word", k.traffic(0, 0) + k.traffic(1, 0), 0);
        }
    }

    private static void call9Empty() {
        PartitionKernel k = caller(9, 0, 6);
        k.channel(true, 0, 0, 2);
        called(k);
        answer("call 9", k, 2);
        CHECK.same("x11 stays", k.register(0, 0, 11), 6);
    }

    private static void call9NoSample() {
        PartitionKernel k = caller(9, 0, 6);
        k.channel(false, 0, 0, 100000);
        called(k);
        answer("call 9", k, 2);
        CHECK.same("x11 stays", k.register(0, 0, 11), 6);
    }

    private static void call9NotToHere() {
        for (int to = 1; to < 4; to++) {
            for (boolean queue : new boolean[] {true, false}) {
                PartitionKernel k = one(0, 0, Asm.join(Asm.call(8, 0, 9), Asm.call(9, 0, 6)));
                k.channel(queue, 0, to, 8);
                k.begin();
                k.run(8);
                answer("call 9", k, 1);
                CHECK.same("x11 stays", k.register(0, 0, 11), 6);
                CHECK.same("the word stays", k.traffic(0, 0), 1);
            }
        }
    }

    /** Queues of each length beside a plain one, sent to and taken from so often that they turn round. */
    private static void call9Queue() {
        String moves = "sssssssssrrrrrrrrrrssrssrrsssrrrrsrsrsrssssssssrrrsssrrrrrrrr";
        for (int limit = 1; limit <= 8; limit++) {
            int[][] calls = new int[moves.length()][];
            for (int n = 0; n < calls.length; n++) {
                calls[n] = Asm.call(moves.charAt(n) == 's' ? 8 : 9, 0, 100 + n);
            }
            PartitionKernel k = one(0, 0, Asm.join(calls));
            k.channel(true, 0, 0, limit);
            k.begin();
            ArrayDeque<Integer> plain = new ArrayDeque<>();
            for (int n = 0; n < calls.length; n++) {
                k.run(4);
                queueMove(k, plain, limit, moves.charAt(n) == 's', 100 + n);
            }
        }
    }

    private static void queueMove(PartitionKernel k, ArrayDeque<Integer> plain, int limit, boolean sends, int b) {
        boolean fails = sends ? plain.size() == limit : plain.isEmpty();
        answer("move " + b, k, fails ? 2 : 0);
        int second = b;
        if (!fails && sends) {
            plain.addLast(b);
        } else if (!fails) {
            second = plain.removeFirst();
        }
        CHECK.same("x11 of " + b, k.register(0, 0, 11), second);
        CHECK.same("words behind " + b, k.traffic(0, 0), plain.size());
        int at = 0;
        for (int word : plain) {
            CHECK.same("word " + at, k.word(0, at), word);
            at++;
        }
        CHECK.same("word behind the last", k.word(0, at), 0);
    }

    private static void call9Sample() {
        PartitionKernel k = one(0, 0, Asm.join(Asm.call(9, 0, 33), Asm.call(8, 0, 44), Asm.call(9, 0, 0),
            Asm.call(9, 0, 0), Asm.call(9, 0, 0), Asm.call(8, 0, 45), Asm.call(9, 0, 0)));
        k.channel(false, 0, 0, 8);
        k.begin();
        int[] answers = {2, 0, 0, 0, 3, 0, 0};
        int[] second = {33, 44, 44, 44, 44, 45, 45};
        for (int n = 0; n < 7; n++) {
            k.run(4);
            answer("sample " + n, k, answers[n]);
            CHECK.same("x11 " + n, k.register(0, 0, 11), second[n]);
            CHECK.same("it stays " + n, k.traffic(0, 0), n == 0 ? 0 : 1);
        }
    }

    /** A sample is sent in the tick 2, and read so many ticks later. */
    private static int readLater(int ticks, int limit) {
        PartitionKernel k = one(0, 0, Asm.li(11, 6), Asm.li(17, 8), Asm.CALL, Asm.li(17, 2), Asm.load(2, 10, 0, 512),
            Asm.CALL, Asm.li(17, 9), Asm.li(10, 0), Asm.CALL);
        k.poke(0, 512, ticks - 5);
        k.channel(false, 0, 0, limit);
        k.begin();
        for (int left = 3 + ticks; left > 0; left -= 500) {
            k.run(Math.min(left, 500));
        }
        CHECK.same("its time", k.traffic(0, 1), 2);
        CHECK.same("instructions", k.about(2), 9);
        CHECK.same("x11", k.register(0, 0, 11), 6);
        return k.register(0, 0, 10);
    }

    private static void call9Limits() {
        for (int ticks : new int[] {7, 8, 20, 400}) {
            CHECK.same("less than LIMIT", readLater(ticks, ticks + 1), 0);
            CHECK.same("just LIMIT", readLater(ticks, ticks), 0);
            CHECK.same("one more", readLater(ticks, ticks - 1), 3);
            CHECK.same("LIMIT 0", readLater(ticks, 0), 3);
        }
    }

    /** Windows of one tick each: partition 0 sends in the tick 6, partition 1 reads in the tick 7. */
    private static void call9NextTick() {
        int[] answers = {3, 0};
        for (int limit = 0; limit < 2; limit++) {
            PartitionKernel k = new PartitionKernel();
            k.process(0, 0, 0, 0, 0);
            k.process(1, 0, 0, 0, 0);
            k.window(0, 1);
            k.window(1, 1);
            k.channel(false, 0, 1, limit);
            Asm.place(k, 0, 0, Asm.call(8, 0, 42));
            Asm.place(k, 1, 0, Asm.call(9, 0, 0));
            k.begin();
            k.run(8);
            CHECK.same("its time", k.traffic(0, 1), 6);
            CHECK.same("x11", k.register(1, 0, 11), 42);
            CHECK.same("LIMIT " + limit, k.register(1, 0, 10), answers[limit]);
        }
    }

    private static void call9GreatestLimit() {
        CHECK.same("99999 ticks later", readLater(99999, 100000), 0);
        CHECK.same("100000 ticks later", readLater(100000, 100000), 0);
        CHECK.same("100001 ticks later", readLater(100001, 100000), 3);
    }

    private static void call10Raise() {
        PartitionKernel k = one(0, 0, Asm.call(10, 7, 8));
        k.action(0, 3, 1);
        k.begin();
        k.run(4);
        CHECK.same("kind", k.error(0, 3), 3);
        CHECK.same("PC stays at the call", k.state(0, 0, 1), 12);
        CHECK.same("x10 stays", k.register(0, 0, 10), 7);
        CHECK.same("DORMANT by the action", k.state(0, 0, 0), 0);
        PartitionKernel goesOn = one(0, 0, Asm.call(10, 7, 8));
        goesOn.begin();
        goesOn.run(4);
        CHECK.same("PC is 4 more by action 0", goesOn.state(0, 0, 1), 16);
        CHECK.same("kind", goesOn.error(0, 3), 3);
    }

    private static void otherCalls() {
        for (int number : new int[] {-1, 11, 12, LEAST, GREATEST}) {
            for (int action = 0; action < 2; action++) {
                PartitionKernel k = one(0, 0, Asm.load(2, 17, 0, 1016), Asm.li(10, 7), Asm.li(11, 8), Asm.CALL);
                k.poke(0, 1016, number);
                k.action(0, 0, action);
                k.begin();
                k.run(4);
                CHECK.same("call " + number + ": errors", k.about(1), 1);
                CHECK.same("call " + number + ": kind", k.error(0, 3), 0);
                CHECK.same("call " + number + ": PC", k.state(0, 0, 1), action == 0 ? 16 : 12);
                CHECK.same("call " + number + ": x10", k.register(0, 0, 10), 7);
            }
        }
    }

    private CallsTest() {
    }
}
