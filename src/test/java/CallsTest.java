import java.util.ArrayDeque;

/** The terms of CALLS: each of them by its number, its answers and its edges. */
final class CallsTest {
    private static final Check CHECK = new Check("CallsTest");

    public static void main(String[] args) {
        call0Dormant();
        call1Release();
        call1BehindItsTime();
        call2Wait();
        call2Edges();
        call3Begin();
        call4Priority();
        call4PlaceInLine();
        call5Time();
        call6And7Semaphore();
        call7Order();
        call7OrderByPriorityOfNow();
        call7Greatest();
        call8Send();
        call9Queue();
        call9Sample();
        channelsOfOthers();
        call10Raise();
        otherCalls();
        CHECK.finish();
    }

    private static PartitionKernel one(int period, int deadline, int... program) {
        PartitionKernel k = new PartitionKernel();
        k.process(0, 0, 5, period, deadline);
        k.window(0, 10);
        Asm.place(k, 0, 0, program);
        return k;
    }

    private static void answer(String what, PartitionKernel k, int due) {
        CHECK.same(what + ": answer", k.register(0, 0, 10), due);
        CHECK.same(what + ": errors", k.about(1), 0);
    }

    private static void call0Dormant() {
        PartitionKernel k = one(0, 90, Asm.call(0, 7, 8));
        k.begin();
        k.run(4);
        answer("call 0 gives none", k, 7);
        CHECK.same("x11 stays", k.register(0, 0, 11), 8);
        CHECK.same("DORMANT", k.state(0, 0, 0), 0);
        CHECK.same("PC behind it", k.state(0, 0, 1), 16);
        CHECK.same("no DUE", k.state(0, 0, 3), -1);
        CHECK.same("RELEASE", k.state(0, 0, 7), 0);
        CHECK.same("nothing more", k.run(200), 0);
        CHECK.same("no error of a DORMANT one", k.about(1), 0);
    }

    private static void call1Release() {
        PartitionKernel k = one(30, 20, Asm.join(Asm.call(1, 9, 0), Asm.words(Asm.jal(0, -4))));
        k.begin();
        k.run(4);
        answer("call 1", k, 0);
        CHECK.same("waits", k.state(0, 0, 0), 2);
        CHECK.same("for RELEASE", k.state(0, 0, 4), 30);
        CHECK.same("RELEASE", k.state(0, 0, 7), 30);
        CHECK.same("DUE", k.state(0, 0, 3), 50);
        k.run(26);
        CHECK.same("still waits", k.state(0, 0, 0), 2);
        CHECK.same("its tick", k.run(1), 1);
        CHECK.same("READY", k.state(0, 0, 0), 1);
        CHECK.same("waits for none", k.state(0, 0, 4), -1);
        k.run(1);
        CHECK.same("next RELEASE", k.state(0, 0, 4), 60);
        CHECK.same("next DUE", k.state(0, 0, 3), 80);
        PartitionKernel without = one(30, 0, Asm.call(1, 9, 0));
        without.begin();
        without.run(4);
        answer("call 1 without a DEADLINE", without, 0);
        CHECK.same("no DUE", without.state(0, 0, 3), -1);
        CHECK.same("waits", without.state(0, 0, 4), 30);
        PartitionKernel none = one(0, 20, Asm.call(1, 9, 0));
        none.begin();
        none.run(4);
        answer("call 1 without a PERIOD", none, 1);
        CHECK.same("READY", none.state(0, 0, 0), 1);
        CHECK.same("DUE stays", none.state(0, 0, 3), 20);
        CHECK.same("RELEASE stays", none.state(0, 0, 7), 0);
    }

    /** A RELEASE that is past already: it waits for it all the same, and is READY in the next tick. */
    private static void call1BehindItsTime() {
        PartitionKernel k = one(1, 1, Asm.call(1, 9, 0));
        k.begin();
        k.run(3);
        CHECK.same("too late once", k.about(1), 1);
        k.run(1);
        CHECK.same("waits", k.state(0, 0, 0), 2);
        CHECK.same("for a time that is past", k.state(0, 0, 4), 1);
        CHECK.same("DUE", k.state(0, 0, 3), 2);
        CHECK.same("RELEASE", k.state(0, 0, 7), 1);
        CHECK.same("its tick comes at once", k.run(1), 1);
        CHECK.same("too late again", k.about(1), 3);
        CHECK.same("kind 2 ahead of kind 0", k.error(1, 3), 2);
    }

    private static void call2Wait() {
        PartitionKernel k = one(0, 0, Asm.join(Asm.call(2, 3, 0), Asm.words(Asm.idle())));
        k.begin();
        k.run(4);
        answer("call 2", k, 0);
        CHECK.same("waits", k.state(0, 0, 0), 2);
        CHECK.same("for now + a", k.state(0, 0, 4), 6);
        CHECK.same("RELEASE stays", k.state(0, 0, 7), 0);
        CHECK.same("nothing in 4 and 5", k.run(2), 0);
        CHECK.same("in 6", k.run(1), 1);
        CHECK.same("READY", k.state(0, 0, 0), 1);
    }

    private static void call2Edges() {
        int[] spans = {0, 1, 100000, 100001, -1, Integer.MIN_VALUE, Integer.MAX_VALUE};
        for (int a : spans) {
            PartitionKernel k = one(0, 0, Asm.li(17, 2), Asm.load(2, 10, 0, 512), Asm.CALL, Asm.idle());
            k.poke(0, 512, a);
            k.begin();
            k.run(3);
            boolean fits = a >= 0 && a <= 100000;
            answer("call 2 of " + a, k, fits ? 0 : 1);
            CHECK.same("state", k.state(0, 0, 0), fits ? 2 : 1);
            CHECK.same("time", k.state(0, 0, 4), fits ? 2 + a : -1);
            CHECK.same("next tick", k.run(1), a == 100000 ? 0 : 1);
        }
    }

    private static void call3Begin() {
        PartitionKernel k = one(0, 0, Asm.join(Asm.call(3, 1, 0), Asm.call(3, 1, 0), Asm.call(3, 0, 0),
            Asm.call(3, 2, 0), Asm.call(3, -1, 0), Asm.words(Asm.idle())));
        k.process(0, 256, 9, 0, 40);
        Asm.place(k, 0, 256, Asm.join(Asm.words(Asm.li(5, 6)), Asm.call(0, 0, 0)));
        k.begin();
        k.run(5);
        CHECK.same("process 1 is DORMANT", k.state(0, 1, 0), 0);
        k.run(4);
        answer("call 3", k, 0);
        CHECK.same("READY", k.state(0, 1, 0), 1);
        CHECK.same("PC", k.state(0, 1, 1), 256);
        CHECK.same("registers", k.register(0, 1, 5), 0);
        CHECK.same("x17", k.register(0, 1, 17), 0);
        CHECK.same("RELEASE", k.state(0, 1, 7), 8);
        CHECK.same("DUE", k.state(0, 1, 3), 48);
        CHECK.same("its instructions go on counting", k.state(0, 1, 6), 5);
        CHECK.same("it is first", k.partition(0, 2), 1);
        k.poke(0, 256, Asm.CALL);
        k.run(1);
        CHECK.same("DORMANT by call 0", k.state(0, 1, 0), 0);
        Asm.place(k, 0, 256, Asm.call(2, 90, 0));
        k.run(4);
        answer("call 3 again", k, 0);
        k.run(4);
        CHECK.same("waits", k.state(0, 1, 0), 2);
        k.run(4);
        answer("call 3 of itself", k, 1);
        CHECK.same("PC", k.state(0, 0, 1), 48);
        k.run(4);
        answer("call 3 of none", k, 1);
        k.run(4);
        answer("call 3 of -1", k, 1);
        PartitionKernel waits = one(0, 0, Asm.join(Asm.call(2, 1, 0), Asm.call(3, 1, 0)));
        waits.process(0, 256, 1, 0, 0);
        Asm.place(waits, 0, 256, Asm.CALL);
        waits.process(1, 0, 1, 0, 0);
        waits.begin();
        waits.run(8);
        answer("call 3 of one that is READY", waits, 1);
    }

    private static void call4Priority() {
        PartitionKernel k = one(0, 0, Asm.join(Asm.call(4, 1, 6), Asm.words(Asm.idle())));
        k.process(0, 256, 1, 0, 0);
        Asm.place(k, 0, 256, Asm.join(Asm.call(4, 1, 15), Asm.call(4, 1, 16), Asm.call(4, 1, -1),
            Asm.call(4, 2, 3), Asm.call(4, -1, 3), Asm.call(4, 0, 0), Asm.words(Asm.idle())));
        k.begin();
        k.run(4);
        answer("call 4", k, 0);
        CHECK.same("PRIORITY", k.state(0, 1, 2), 6);
        CHECK.same("it is first", k.partition(0, 2), 1);
        int[] answers = {0, 1, 1, 1, 1, 0};
        for (int n = 0; n < 6; n++) {
            k.run(4);
            CHECK.same("answer " + n, k.register(0, 1, 10), answers[n]);
            CHECK.same("PRIORITY behind " + n, k.state(0, 1, 2), 15);
        }
        CHECK.same("PRIORITY of another", k.state(0, 0, 2), 0);
        PartitionKernel dormant = one(0, 0, Asm.join(Asm.call(4, 1, 2), Asm.call(3, 1, 0)));
        dormant.process(0, 256, 9, 0, 0);
        Asm.place(dormant, 0, 256, Asm.CALL);
        dormant.begin();
        dormant.run(5);
        CHECK.same("PRIORITY of a DORMANT one", dormant.state(0, 1, 2), 2);
        dormant.run(4);
        CHECK.same("it BEGINS with it", dormant.state(0, 1, 2), 2);
        CHECK.same("and is READY", dormant.state(0, 1, 0), 1);
    }

    /** A new PRIORITY changes nobody's place in the line of those who are READY. */
    private static void call4PlaceInLine() {
        PartitionKernel k = one(0, 0, Asm.join(Asm.call(4, 0, 3), Asm.words(Asm.idle())));
        k.process(0, 256, 3, 0, 0);
        Asm.place(k, 0, 256, Asm.idle());
        k.begin();
        k.run(4);
        CHECK.same("it came first and is still", k.partition(0, 2), 0);
        k.run(1);
        CHECK.same("its instruction", k.state(0, 0, 6), 5);
    }

    private static void call5Time() {
        PartitionKernel k = one(0, 0, Asm.li(17, 5), Asm.CALL, Asm.jal(0, -4));
        k.window(1, 5);
        k.begin();
        k.run(2);
        answer("call 5", k, 1);
        k.run(14);
        answer("call 5", k, 9);
        CHECK.same("TIME", k.about(0), 16);
        k.run(2);
        answer("call 5", k, 16);
    }

    private static void call6And7Semaphore() {
        PartitionKernel k = one(0, 0, Asm.join(Asm.call(7, 3, 0), Asm.call(6, 3, 0), Asm.call(6, 4, 0),
            Asm.call(6, -1, 0), Asm.call(7, 4, 0), Asm.call(7, -1, 0), Asm.call(6, 3, 0)));
        k.begin();
        k.run(4);
        answer("call 7", k, 0);
        CHECK.same("count", k.partition(0, 7), 1);
        k.run(4);
        answer("call 6", k, 0);
        CHECK.same("count", k.partition(0, 7), 0);
        CHECK.same("READY", k.state(0, 0, 0), 1);
        for (int n = 0; n < 4; n++) {
            k.run(4);
            answer("no such semaphore " + n, k, 1);
            CHECK.same("READY", k.state(0, 0, 0), 1);
        }
        k.run(4);
        answer("call 6 that waits", k, 0);
        CHECK.same("waits", k.state(0, 0, 0), 3);
        CHECK.same("for it", k.state(0, 0, 5), 3);
        CHECK.same("PC", k.state(0, 0, 1), 112);
        CHECK.same("waits on", k.run(100), 0);
    }

    /** Processes 1, 2, 3 wait for semaphore 2, process 4 for semaphore 1; process 0 gives. */
    private static PartitionKernel waiters(int... priorities) {
        PartitionKernel k = one(0, 0, Asm.join(Asm.call(2, 30, 0), Asm.call(7, 2, 0), Asm.call(7, 2, 0),
            Asm.call(7, 2, 0), Asm.call(7, 2, 0), Asm.words(Asm.idle())));
        for (int n = 0; n < priorities.length; n++) {
            k.process(0, 256, priorities[n], 0, 0);
        }
        k.process(0, 512, 1, 0, 0);
        Asm.place(k, 0, 256, Asm.join(Asm.call(6, 2, 0), Asm.words(Asm.idle())));
        Asm.place(k, 0, 512, Asm.join(Asm.call(6, 1, 0), Asm.words(Asm.idle())));
        k.begin();
        return k;
    }

    private static void ready(String when, PartitionKernel k, int... due) {
        for (int n = 0; n < due.length; n++) {
            CHECK.same(when + ": state of " + (n + 1), k.state(0, n + 1, 0), due[n]);
        }
    }

    private static void call7Order() {
        PartitionKernel k = waiters(2, 3, 3);
        k.run(33);
        ready("all wait", k, 3, 3, 3, 3);
        k.run(4);
        ready("the greatest, the first of these", k, 3, 1, 3, 3);
        answer("call 7 that wakes", k, 0);
        CHECK.same("waits for none", k.state(0, 2, 5), -1);
        k.run(4);
        ready("the second", k, 3, 1, 1, 3);
        k.run(4);
        ready("the last", k, 1, 1, 1, 3);
        CHECK.same("the count is 0 so far", k.partition(0, 6), 0);
        k.run(4);
        ready("one of another semaphore waits on", k, 1, 1, 1, 3);
        CHECK.same("the count is one more", k.partition(0, 6), 1);
        CHECK.same("the other's count", k.partition(0, 5), 0);
    }

    /** Process 1 comes to the semaphore behind process 2, and has the same PRIORITY by then. */
    private static void call7OrderByPriorityOfNow() {
        PartitionKernel k = waiters(2, 3, 1);
        k.poke(0, 16, Asm.li(17, 4));
        k.poke(0, 20, Asm.li(10, 1));
        k.poke(0, 24, Asm.li(11, 3));
        k.run(37);
        CHECK.same("PRIORITY", k.state(0, 1, 2), 3);
        ready("all wait", k, 3, 3, 3, 3);
        k.run(4);
        ready("the first to come, not the first by number", k, 3, 1, 3, 3);
        k.run(4);
        ready("then the other", k, 1, 1, 3, 3);
    }

    private static void call7Greatest() {
        PartitionKernel k = one(0, 0, Asm.li(17, 7), Asm.li(10, 0), Asm.CALL, Asm.jal(0, -8));
        k.begin();
        k.run(3);
        k.run(500);
        k.run(500);
        k.run(500);
        k.run(500);
        k.run(500);
        k.run(494);
        CHECK.same("999", k.partition(0, 4), 999);
        answer("999", k, 0);
        k.run(3);
        CHECK.same("1000", k.partition(0, 4), 1000);
        answer("1000", k, 0);
        k.run(3);
        CHECK.same("no more", k.partition(0, 4), 1000);
        answer("no more", k, 1);
    }

    private static void call8Send() {
        PartitionKernel k = one(0, 0, Asm.join(Asm.call(8, 0, 41), Asm.call(8, 0, 42), Asm.call(8, 0, 43),
            Asm.call(8, 1, 51), Asm.call(8, 1, 52), Asm.call(8, 3, 9), Asm.call(8, -1, 9),
            Asm.call(8, 2, 9), Asm.words(Asm.idle())));
        k.channel(true, 0, 1, 2);
        k.channel(false, 0, 0, 5);
        k.channel(true, 1, 0, 2);
        k.begin();
        int[] answers = {0, 0, 2, 0, 0, 1, 1, 1};
        for (int n = 0; n < 8; n++) {
            k.run(4);
            answer("call 8, " + n, k, answers[n]);
        }
        CHECK.same("queue", k.traffic(0, 0), 2);
        CHECK.same("first", k.word(0, 0), 41);
        CHECK.same("second", k.word(0, 1), 42);
        CHECK.same("sample", k.word(1, 0), 52);
        CHECK.same("its time", k.traffic(1, 1), 19);
        CHECK.same("not from here", k.traffic(2, 0), 0);
    }

    /** Queues of each length beside a plain one, sent to and taken from so often that they turn round. */
    private static void call9Queue() {
        String moves = "sssssssssrrrrrrrrrrssrssrrsssrrrrsrsrsrssssssssrrrsssrrrrrrrr";
        for (int limit = 1; limit <= 8; limit++) {
            int[][] calls = new int[moves.length()][];
            for (int n = 0; n < calls.length; n++) {
                calls[n] = Asm.call(moves.charAt(n) == 's' ? 8 : 9, 0, 100 + n);
            }
            PartitionKernel k = one(0, 0, Asm.join(calls));
            k.channel(true, 0, 0, limit);
            k.begin();
            ArrayDeque<Integer> plain = new ArrayDeque<>();
            for (int n = 0; n < calls.length; n++) {
                k.run(4);
                queueMove(k, plain, limit, moves.charAt(n) == 's', 100 + n);
            }
        }
    }

    private static void queueMove(PartitionKernel k, ArrayDeque<Integer> plain, int limit, boolean sends, int b) {
        boolean fails = sends ? plain.size() == limit : plain.isEmpty();
        answer("move " + b, k, fails ? 2 : 0);
        int second = b;
        if (!fails && sends) {
            plain.addLast(b);
        } else if (!fails) {
            second = plain.removeFirst();
        }
        CHECK.same("x11 of " + b, k.register(0, 0, 11), second);
        CHECK.same("words behind " + b, k.traffic(0, 0), plain.size());
        int at = 0;
        for (int word : plain) {
            CHECK.same("word " + at, k.word(0, at), word);
            at++;
        }
        CHECK.same("word behind the last", k.word(0, at), 0);
    }

    private static void call9Sample() {
        PartitionKernel k = one(0, 0, Asm.join(Asm.call(9, 0, 33), Asm.call(8, 0, 44), Asm.call(9, 0, 0),
            Asm.call(9, 0, 0), Asm.call(9, 0, 0), Asm.call(8, 0, 45), Asm.call(9, 0, 0)));
        k.channel(false, 0, 0, 8);
        k.begin();
        int[] answers = {2, 0, 0, 0, 3, 0, 0};
        int[] second = {33, 44, 44, 44, 44, 45, 45};
        for (int n = 0; n < 7; n++) {
            k.run(4);
            answer("sample " + n, k, answers[n]);
            CHECK.same("x11 " + n, k.register(0, 0, 11), second[n]);
            CHECK.same("it stays " + n, k.traffic(0, 0), n == 0 ? 0 : 1);
        }
        PartitionKernel fresh = one(0, 0, Asm.li(11, 6), Asm.li(17, 8), Asm.CALL, Asm.li(17, 9), Asm.li(10, 0), Asm.CALL);
        fresh.channel(false, 0, 0, 2);
        fresh.begin();
        fresh.run(6);
        answer("one tick past the LIMIT", fresh, 3);
        PartitionKernel edge = one(0, 0, Asm.li(11, 6), Asm.li(17, 8), Asm.CALL, Asm.li(17, 9), Asm.li(10, 0), Asm.CALL);
        edge.channel(false, 0, 0, 3);
        edge.begin();
        edge.run(6);
        answer("just at the LIMIT", edge, 0);
    }

    private static void channelsOfOthers() {
        PartitionKernel k = one(0, 0, Asm.join(Asm.call(9, 0, 5), Asm.call(9, 1, 5), Asm.call(9, 2, 5),
            Asm.call(9, 3, 5), Asm.call(9, -1, 5), Asm.call(8, 1, 5)));
        k.channel(true, 0, 1, 2);
        k.channel(false, 1, 2, 2);
        k.channel(true, 2, 0, 2);
        k.begin();
        int[] answers = {1, 1, 2, 1, 1, 1};
        for (int n = 0; n < 6; n++) {
            k.run(4);
            answer("others' channel " + n, k, answers[n]);
            CHECK.same("x11 stays", k.register(0, 0, 11), 5);
        }
    }

    private static void call10Raise() {
        PartitionKernel k = one(0, 0, Asm.call(10, 7, 8));
        k.action(0, 3, 1);
        k.begin();
        k.run(4);
        CHECK.same("kind", k.error(0, 3), 3);
        CHECK.same("PC stays at the call", k.state(0, 0, 1), 12);
        CHECK.same("x10 stays", k.register(0, 0, 10), 7);
        CHECK.same("DORMANT by the action", k.state(0, 0, 0), 0);
        PartitionKernel goesOn = one(0, 0, Asm.call(10, 7, 8));
        goesOn.begin();
        goesOn.run(4);
        CHECK.same("PC is 4 more by action 0", goesOn.state(0, 0, 1), 16);
        CHECK.same("kind", goesOn.error(0, 3), 3);
    }

    private static void otherCalls() {
        for (int number : new int[] {11, 12, 2047, -1, -2048}) {
            PartitionKernel k = one(0, 0, Asm.call(number, 7, 8));
            k.begin();
            k.run(4);
            CHECK.same("call " + number + ": kind", k.error(0, 3), 0);
            CHECK.same("call " + number + ": PC", k.state(0, 0, 1), 16);
            CHECK.same("call " + number + ": x10", k.register(0, 0, 10), 7);
            PartitionKernel stops = one(0, 0, Asm.call(number, 7, 8));
            stops.action(0, 0, 4);
            stops.begin();
            stops.run(4);
            CHECK.same("call " + number + ": PC is where it went wrong", stops.state(0, 0, 1), 12);
        }
    }

    private CallsTest() {
    }
}
