/** Promises 1 to 7: what is set up ahead of the first tick. */
final class SetUpTest {
    private static final Class<IndexOutOfBoundsException> INDEX = IndexOutOfBoundsException.class;
    private static final Class<IllegalArgumentException> ARGUMENT = IllegalArgumentException.class;
    private static final Class<IllegalStateException> STATE = IllegalStateException.class;
    private static final Check CHECK = new Check("SetUpTest");
    private static final int[] FAR = {-1, 4, 5, Integer.MIN_VALUE, Integer.MAX_VALUE};

    public static void main(String[] args) {
        promise1NewObject();
        promise2Window();
        promise2Frame();
        promise3Process();
        promise3Numbers();
        promise4Channel();
        promise5Action();
        promise5ActionAtAnyTime();
        promise6Poke();
        promise7Begin();
        promise7Order();
        orderOfRefusals();
        CHECK.finish();
    }

    private static PartitionKernel fresh() {
        return new PartitionKernel();
    }

    private static void promise1NewObject() {
        PartitionKernel k = fresh();
        CHECK.same("NONE", PartitionKernel.NONE, -1);
        CHECK.same("about(0)", k.about(0), 0);
        CHECK.same("about(1)", k.about(1), 0);
        CHECK.same("about(2)", k.about(2), 0);
        CHECK.same("about(3)", k.about(3), -1);
        CHECK.same("error(0, 0)", k.error(0, 0), -1);
        CHECK.same("traffic(0, 0)", k.traffic(0, 0), -1);
        CHECK.same("word(0, 0)", k.word(0, 0), 0);
        for (int p = 0; p < 4; p++) {
            CHECK.same("stopped", k.partition(p, 0), 0);
            CHECK.same("processes", k.partition(p, 1), 0);
            CHECK.same("first", k.partition(p, 2), -1);
            CHECK.same("began again", k.partition(p, 3), 0);
            for (int s = 4; s < 8; s++) {
                CHECK.same("semaphore", k.partition(p, s), 0);
            }
            CHECK.same("state of none", k.state(p, 0, 0), -1);
            CHECK.same("register of none", k.register(p, 0, 1), 0);
            for (int place = 0; place < 1024; place += 4) {
                CHECK.same("peek", k.peek(p, place), 0);
            }
        }
        CHECK.refuses("begin without a window", STATE, k::begin);
        PartitionKernel other = fresh();
        k.poke(0, 0, 5);
        CHECK.same("another object's memory", other.peek(0, 0), 0);
    }

    private static void promise2Window() {
        PartitionKernel k = fresh();
        for (int p : FAR) {
            CHECK.refuses("window of no partition", INDEX, () -> k.window(p, 1));
        }
        for (int ticks : new int[] {0, -1, 101, Integer.MIN_VALUE, Integer.MAX_VALUE}) {
            CHECK.refuses("window of ticks " + ticks, ARGUMENT, () -> k.window(0, ticks));
        }
        for (int n = 0; n < 8; n++) {
            int p = n & 3;
            int ticks = n == 0 ? 1 : n == 1 ? 100 : 50;
            CHECK.accepts("window " + n, () -> k.window(p, ticks));
        }
        CHECK.refuses("ninth window", STATE, () -> k.window(0, 1));
        k.begin();
        CHECK.refuses("window behind begin", STATE, () -> k.window(0, 1));
    }

    private static void promise2Frame() {
        PartitionKernel k = fresh();
        int[] owners = {2, 0, 2, 3, 1, 1, 0, 3};
        int[] ticks = {1, 3, 2, 1, 4, 1, 100, 2};
        for (int n = 0; n < 8; n++) {
            k.window(owners[n], ticks[n]);
        }
        CHECK.same("about(3) ahead of begin", k.about(3), -1);
        k.begin();
        for (int round = 0; round < 3; round++) {
            for (int n = 0; n < 8; n++) {
                for (int t = 0; t < ticks[n]; t++) {
                    CHECK.same("window " + n + " tick " + t, k.about(3), owners[n]);
                    k.run(1);
                }
            }
        }
        CHECK.same("about(0) behind three frames", k.about(0), 3 * 114);
        PartitionKernel refused = fresh();
        CHECK.refuses("bad window", ARGUMENT, () -> refused.window(1, 0));
        CHECK.refuses("a refused window is none", STATE, refused::begin);
    }

    private static void promise3Process() {
        PartitionKernel k = fresh();
        for (int p : FAR) {
            CHECK.refuses("process of no partition", INDEX, () -> k.process(p, 0, 0, 0, 0));
        }
        for (int priority : new int[] {-1, 16, Integer.MIN_VALUE, Integer.MAX_VALUE}) {
            CHECK.refuses("priority " + priority, ARGUMENT, () -> k.process(0, 0, priority, 0, 0));
        }
        for (int span : new int[] {-1, 100001, Integer.MIN_VALUE, Integer.MAX_VALUE}) {
            CHECK.refuses("period " + span, ARGUMENT, () -> k.process(0, 0, 0, span, 0));
            CHECK.refuses("deadline " + span, ARGUMENT, () -> k.process(0, 0, 0, 0, span));
        }
        CHECK.same("refused ones are none", k.partition(0, 1), 0);
        CHECK.same("process at the edges", k.process(0, Integer.MIN_VALUE, 15, 100000, 100000), 0);
        CHECK.same("process at the others", k.process(0, Integer.MAX_VALUE, 0, 0, 0), 1);
        k.window(0, 1);
        k.begin();
        CHECK.same("entry of any value", k.state(0, 0, 1), Integer.MIN_VALUE);
        CHECK.same("entry of any value", k.state(0, 1, 1), Integer.MAX_VALUE);
        CHECK.refuses("process behind begin", STATE, () -> k.process(0, 0, 0, 0, 0));
        CHECK.same("still two", k.partition(0, 1), 2);
    }

    private static void promise3Numbers() {
        PartitionKernel k = fresh();
        for (int n = 0; n < 8; n++) {
            for (int p = 0; p < 4; p++) {
                CHECK.same("number", k.process(p, 4 * n, (n + p) % 16, n, 2 * n), n);
                CHECK.same("count", k.partition(p, 1), n + 1);
                CHECK.same("priority", k.state(p, n, 2), (n + p) % 16);
                CHECK.same("next one is none", k.state(p, n + 1, 2), -1);
            }
        }
        for (int p = 0; p < 4; p++) {
            int home = p;
            CHECK.refuses("ninth process", STATE, () -> k.process(home, 0, 0, 0, 0));
            CHECK.same("eight", k.partition(p, 1), 8);
        }
    }

    private static void promise4Channel() {
        PartitionKernel k = fresh();
        for (int p : FAR) {
            CHECK.refuses("from none", INDEX, () -> k.channel(true, p, 0, 1));
            CHECK.refuses("to none", INDEX, () -> k.channel(false, 0, p, 1));
        }
        for (int limit : new int[] {0, -1, 9, 100, Integer.MIN_VALUE, Integer.MAX_VALUE}) {
            CHECK.refuses("queue of " + limit, ARGUMENT, () -> k.channel(true, 0, 1, limit));
        }
        for (int limit : new int[] {-1, 100001, Integer.MIN_VALUE, Integer.MAX_VALUE}) {
            CHECK.refuses("sample of " + limit, ARGUMENT, () -> k.channel(false, 0, 1, limit));
        }
        CHECK.same("refused ones are none", k.traffic(0, 0), -1);
        CHECK.same("least queue", k.channel(true, 0, 3, 1), 0);
        CHECK.same("greatest queue", k.channel(true, 3, 0, 8), 1);
        CHECK.same("least sample", k.channel(false, 1, 2, 0), 2);
        CHECK.same("greatest sample", k.channel(false, 2, 1, 100000), 3);
        CHECK.same("to itself", k.channel(true, 1, 1, 2), 4);
        CHECK.same("sixth", k.channel(false, 1, 1, 2), 5);
        CHECK.same("seventh", k.channel(true, 0, 1, 2), 6);
        CHECK.same("eighth is none yet", k.traffic(7, 0), -1);
        CHECK.same("eighth", k.channel(false, 0, 1, 9), 7);
        CHECK.refuses("ninth channel", STATE, () -> k.channel(true, 0, 0, 1));
        PartitionKernel other = fresh();
        other.window(0, 1);
        other.begin();
        CHECK.refuses("channel behind begin", STATE, () -> other.channel(true, 0, 0, 1));
    }

    private static void promise5Action() {
        PartitionKernel k = fresh();
        for (int p : FAR) {
            CHECK.refuses("action of no partition", INDEX, () -> k.action(p, 0, 0));
            CHECK.refuses("action for no error", INDEX, () -> k.action(0, p, 0));
        }
        for (int action : new int[] {-1, 5, Integer.MIN_VALUE, Integer.MAX_VALUE}) {
            CHECK.refuses("no such action", ARGUMENT, () -> k.action(0, 0, action));
        }
        for (int p = 0; p < 4; p++) {
            for (int e = 0; e < 4; e++) {
                for (int a = 0; a < 5; a++) {
                    int home = p;
                    int error = e;
                    int action = a;
                    CHECK.accepts("action", () -> k.action(home, error, action));
                }
            }
        }
    }

    private static void promise5ActionAtAnyTime() {
        PartitionKernel k = fresh();
        k.process(1, 0, 0, 0, 0);
        k.process(2, 0, 0, 0, 0);
        k.window(1, 1);
        k.window(2, 1);
        k.action(1, 0, 1);
        k.begin();
        k.run(2);
        CHECK.same("its partition's action", k.state(1, 0, 0), 0);
        CHECK.same("another partition's stays 0", k.state(2, 0, 1), 4);
        k.action(2, 0, 4);
        k.action(2, 1, 1);
        k.run(2);
        CHECK.same("action behind begin", k.partition(2, 0), 1);
        CHECK.same("stopped alone", k.partition(1, 0), 0);
    }

    private static void promise6Poke() {
        PartitionKernel k = fresh();
        for (int p : FAR) {
            CHECK.refuses("poke of no partition", INDEX, () -> k.poke(p, 0, 1));
        }
        for (int place : new int[] {-4, -1, 1, 2, 3, 5, 1021, 1022, 1023, 1024, 1028,
                Integer.MIN_VALUE, Integer.MAX_VALUE}) {
            CHECK.refuses("poke at " + place, INDEX, () -> k.poke(0, place, 1));
        }
        for (int p = 0; p < 4; p++) {
            for (int place = 0; place < 1024; place += 4) {
                k.poke(p, place, (p + 1) * 0x01234567 + place);
            }
        }
        for (int p = 0; p < 4; p++) {
            for (int place = 0; place < 1024; place += 4) {
                CHECK.same("peek", k.peek(p, place), (p + 1) * 0x01234567 + place);
            }
        }
        k.process(0, 0, 0, 0, 0);
        k.window(0, 1);
        k.begin();
        CHECK.accepts("poke behind begin", () -> k.poke(0, 0, Asm.li(5, 9)));
        k.run(1);
        CHECK.same("poked instruction is done", k.register(0, 0, 5), 9);
    }

    private static void promise7Begin() {
        PartitionKernel k = fresh();
        CHECK.refuses("begin without a window", STATE, k::begin);
        CHECK.same("a refused begin leaves none", k.about(3), -1);
        k.process(3, 40, 7, 30, 20);
        k.process(3, 44, 7, 30, 0);
        k.window(3, 2);
        CHECK.same("DORMANT ahead", k.state(3, 0, 0), 0);
        CHECK.accepts("begin", k::begin);
        CHECK.refuses("begin again", STATE, k::begin);
        long[] due = {1, 40, 7, 20, -1, -1, 0, 0};
        long[] dueWithout = {1, 44, 7, -1, -1, -1, 0, 0};
        for (int what = 0; what < 8; what++) {
            CHECK.same("state(3, 0, " + what + ")", k.state(3, 0, what), due[what]);
            CHECK.same("state(3, 1, " + what + ")", k.state(3, 1, what), dueWithout[what]);
        }
        CHECK.same("TIME", k.about(0), 0);
        CHECK.same("it began, but not again", k.partition(3, 3), 0);
        CHECK.same("about(3)", k.about(3), 3);
    }

    private static void promise7Order() {
        PartitionKernel k = fresh();
        for (int n = 0; n < 8; n++) {
            k.process(1, 0, n == 0 ? 3 : 9, 0, 0);
        }
        k.window(1, 1);
        k.begin();
        CHECK.same("the first of the greatest", k.partition(1, 2), 1);
    }

    /** Where several refusals hold, the one that the document tells first comes. */
    private static void orderOfRefusals() {
        PartitionKernel k = fresh();
        k.window(0, 1);
        k.begin();
        CHECK.refuses("window(4, 0)", INDEX, () -> k.window(4, 0));
        CHECK.refuses("window(0, 0)", ARGUMENT, () -> k.window(0, 0));
        CHECK.refuses("process(-1, ..)", INDEX, () -> k.process(-1, 0, 16, 0, 0));
        CHECK.refuses("process(0, .. 16)", ARGUMENT, () -> k.process(0, 0, 16, 0, 0));
        CHECK.refuses("process(0, .. period)", ARGUMENT, () -> k.process(0, 0, 0, -1, 0));
        CHECK.refuses("process(0, .. deadline)", ARGUMENT, () -> k.process(0, 0, 0, 0, -1));
        CHECK.refuses("channel(true, 0, 4, 0)", INDEX, () -> k.channel(true, 0, 4, 0));
        CHECK.refuses("channel(true, 0, 0, 0)", ARGUMENT, () -> k.channel(true, 0, 0, 0));
        CHECK.refuses("channel(false, 0, 0, -1)", ARGUMENT, () -> k.channel(false, 0, 0, -1));
        CHECK.refuses("action(4, 0, 9)", INDEX, () -> k.action(4, 0, 9));
        CHECK.refuses("action(0, 4, 9)", INDEX, () -> k.action(0, 4, 9));
    }

    private SetUpTest() {
    }
}
