/** The first terms, sentence by sentence: PARTITIONS, MEMORY, PROCESSES, THE FRAME, CHANNELS, TIME, BEGIN. */
final class TermsTest {
    private static final Check CHECK = new Check("TermsTest");

    public static void main(String[] args) {
        CHECK.sentence("at most 512 calls after it has been made", TermsTest::fiveHundredAndTwelveCalls);
        CHECK.sentence("PARTITIONS 0 .. 3", TermsTest::fourPartitions);
        CHECK.sentence("nothing of the others'", TermsTest::partitionsAreApart);
        memory();
        limits();
        process();
        begins();
        line();
        CHECK.finish();
    }

    private static void memory() {
        CHECK.sentence("a MEMORY of 1024 bytes", TermsTest::memoryEnds);
        CHECK.sentence("0 at first", TermsTest::memoryIsNoughtAtFirst);
        CHECK.sentence("a word has its lowest byte first", TermsTest::lowestByteFirst);
    }

    private static void limits() {
        CHECK.sentence("up to 8 PROCESSES, numbered from 0", TermsTest::eightProcessesWork);
        CHECK.sentence("THE FRAME: up to 8 WINDOWS, again and again", TermsTest::longestFrame);
        CHECK.sentence("THE FRAME: one window, again and again", TermsTest::shortestFrame);
        CHECK.sentence("CHANNELS, up to 8", TermsTest::eightChannelsWork);
        CHECK.sentence("each from a partition to a partition, also itself", TermsTest::channelToItself);
        CHECK.sentence("TIME counts ticks, from 0 on", TermsTest::timeCountsTicks);
    }

    private static void process() {
        CHECK.sentence("PRIORITY 0 .. 15", TermsTest::prioritiesAtTheEdges);
        CHECK.sentence("PERIOD (0: none)", TermsTest::periodNone);
        CHECK.sentence("PERIOD 1", TermsTest::periodLeast);
        CHECK.sentence("PERIOD 100000", TermsTest::periodGreatest);
        CHECK.sentence("DEADLINE (0: none)", TermsTest::deadlineNone);
        CHECK.sentence("DEADLINE 1", TermsTest::deadlineLeast);
        CHECK.sentence("DEADLINE 100000", TermsTest::deadlineGreatest);
        CHECK.sentence("x0 is 0 always", TermsTest::registerNought);
        CHECK.sentence("a DORMANT one has no DUE", TermsTest::dormantHasNoDue);
    }

    private static void begins() {
        CHECK.sentence("To BEGIN it: by call 3", () -> begunAnew(beganByCall3(), 295));
        CHECK.sentence("To BEGIN it: by action 2", () -> begunAnew(beganByAction(2), 7));
        CHECK.sentence("To BEGIN it: by action 3", () -> begunAnew(beganByAction(3), 7));
        CHECK.sentence("DUE now + DEADLINE (if there is one)", TermsTest::beginWithoutDeadline);
    }

    private static void line() {
        CHECK.sentence("Who becomes READY behind a time stands behind all who are", TermsTest::behindByTime);
        CHECK.sentence("Who becomes READY by a semaphore stands behind all who are", TermsTest::behindBySemaphore);
        CHECK.sentence("Who BEGINS by call 3 stands behind all who are", TermsTest::behindByCall3);
        CHECK.sentence("Who BEGINS by action 2 stands behind, also if it was READY", TermsTest::behindByAction2);
        CHECK.sentence("Who BEGINS by action 3 stands behind, also if it was READY", TermsTest::behindByAction3);
        CHECK.sentence("Who BEGINS though it was READY, by error 2", TermsTest::behindByErrorOfAnother);
    }

    /** The 512 calls that take the longest: 8 to set up, 503 runs, and a look as the last one. */
    private static void fiveHundredAndTwelveCalls() {
        int[] due = {251500, 0, 251500, 1};
        int[] dueWrong = {251500, 251500, 251500, 1};
        for (int what = 0; what < 4; what++) {
            CHECK.same("about(" + what + ") as call 512", longest(Asm.idle()).about(what), due[what]);
            CHECK.same("about(" + what + ") as call 512, all wrong", longest(Asm.load(2, 1, 0, 1)).about(what), dueWrong[what]);
        }
        CHECK.same("error(63, 0) as call 512", longest(Asm.load(2, 1, 0, 1)).error(63, 0), 251500 - 64);
        CHECK.same("state(1, 0, 6) as call 512", longest(Asm.idle()).state(1, 0, 6), 251500);
        CHECK.same("run(500) as call 512", longest(Asm.idle()).run(500), 500);
    }

    private static PartitionKernel longest(int word) {
        PartitionKernel k = new PartitionKernel();
        k.process(1, 1020, 15, 0, 0);
        k.process(1, 1020, 0, 100000, 0);
        k.window(1, 100);
        k.window(1, 99);
        k.action(1, 1, 2);
        k.channel(true, 1, 1, 8);
        k.poke(1, 1020, word);
        k.begin();
        for (int n = 0; n < 503; n++) {
            k.run(500);
        }
        return k;
    }

    private static void fourPartitions() {
        PartitionKernel k = new PartitionKernel();
        for (int p = 0; p < 4; p++) {
            CHECK.same("process of " + p, k.process(p, 0, 1, 0, 0), 0);
            k.poke(p, 0, Asm.li(5, 100 + p));
            k.window(p, 1);
        }
        k.begin();
        CHECK.same("an instruction each", k.run(4), 4);
        for (int p = 0; p < 4; p++) {
            CHECK.same("x5 of " + p, k.register(p, 0, 5), 100 + p);
        }
        for (int none : new int[] {-1, 4}) {
            CHECK.same("partition " + none, k.partition(none, 0), -1);
            CHECK.refuses("window of " + none, IndexOutOfBoundsException.class, () -> k.window(none, 1));
        }
    }

    /** Partition 1 stores, gives, begins a process and sets its PRIORITY; the same things of others stay. */
    private static void partitionsAreApart() {
        PartitionKernel k = new PartitionKernel();
        for (int p = 0; p < 3; p++) {
            k.process(p, 0, 9, 0, 0);
            k.process(p, 512, 5, 0, 0);
            k.poke(p, 512, Asm.CALL);
        }
        k.poke(0, 0, Asm.CALL);
        k.poke(2, 0, Asm.CALL);
        Asm.place(k, 1, 0, Asm.join(Asm.call(2, 5, 0), Asm.words(Asm.store(2, 17, 0, 800)), Asm.call(7, 3, 0),
            Asm.call(3, 1, 0), Asm.call(4, 1, 7), Asm.words(Asm.idle())));
        k.window(0, 2);
        k.window(2, 2);
        k.window(1, 40);
        k.begin();
        k.run(34);
        int[] due = {2, 1, 1, 7};
        int[] dueOfOthers = {0, 0, 0, 5};
        for (int p = 0; p < 3; p++) {
            int[] answers = p == 1 ? due : dueOfOthers;
            CHECK.same("memory of " + p, k.peek(p, 800), answers[0]);
            CHECK.same("semaphore of " + p, k.partition(p, 7), answers[1]);
            CHECK.same("state of process 1 of " + p, k.state(p, 1, 0), answers[2]);
            CHECK.same("PRIORITY of process 1 of " + p, k.state(p, 1, 2), answers[3]);
        }
    }

    private static PartitionKernel one(int priority, int period, int deadline, int... program) {
        PartitionKernel k = new PartitionKernel();
        k.process(0, 0, priority, period, deadline);
        k.window(0, 100);
        Asm.place(k, 0, 0, program);
        return k;
    }

    private static PartitionKernel begun(int period, int deadline, int... program) {
        PartitionKernel k = one(5, period, deadline, program);
        k.begin();
        return k;
    }

    private static void memoryEnds() {
        PartitionKernel k = begun(0, 0, Asm.li(5, -1), Asm.store(0, 5, 0, 1023), Asm.store(0, 5, 0, 1024),
            Asm.store(0, 5, 5, 0), Asm.load(4, 6, 0, 1023), Asm.load(4, 7, 0, 1024));
        k.run(2);
        CHECK.same("byte 1023", k.peek(0, 1020), 0xFF000000);
        CHECK.same("no error", k.about(1), 0);
        k.run(1);
        CHECK.same("byte 1024", k.about(1), 1);
        k.run(1);
        CHECK.same("byte -1", k.about(1), 2);
        k.run(2);
        CHECK.same("byte 1023 is loaded", k.register(0, 0, 6), 255);
        CHECK.same("byte 1024 is not", k.about(1), 3);
        CHECK.same("nor stored at the other end", k.peek(0, 0), Asm.li(5, -1));
    }

    /** An object for each partition, because one is promised for 512 calls. */
    private static void memoryIsNoughtAtFirst() {
        for (int p = 0; p < 4; p++) {
            PartitionKernel k = new PartitionKernel();
            for (int place = 0; place < 1024; place += 4) {
                CHECK.same("peek(" + p + ", " + place + ")", k.peek(p, place), 0);
            }
        }
    }

    private static void lowestByteFirst() {
        PartitionKernel k = begun(0, 0, Asm.load(4, 1, 0, 512), Asm.load(4, 2, 0, 513), Asm.load(4, 3, 0, 514),
            Asm.load(4, 4, 0, 515), Asm.load(5, 5, 0, 512), Asm.load(5, 6, 0, 514), Asm.store(0, 1, 0, 519),
            Asm.store(1, 5, 0, 516));
        k.poke(0, 512, 0x44332211);
        k.run(8);
        int[] due = {0, 0x11, 0x22, 0x33, 0x44, 0x2211, 0x4433};
        for (int x = 1; x < due.length; x++) {
            CHECK.same("x" + x, k.register(0, 0, x), due[x]);
        }
        CHECK.same("stored", k.peek(0, 516), 0x11002211);
    }

    private static void eightProcessesWork() {
        PartitionKernel k = new PartitionKernel();
        for (int n = 0; n < 8; n++) {
            CHECK.same("number", k.process(3, 64 * n, 4, 0, 0), n);
            Asm.place(k, 3, 64 * n, Asm.li(5, 50 + n), Asm.CALL);
        }
        k.window(3, 16);
        k.begin();
        CHECK.same("two instructions each", k.run(20), 16);
        for (int n = 0; n < 8; n++) {
            CHECK.same("x5 of " + n, k.register(3, n, 5), 50 + n);
            CHECK.same("DORMANT " + n, k.state(3, n, 0), 0);
        }
    }

    private static void longestFrame() {
        PartitionKernel k = new PartitionKernel();
        for (int n = 0; n < 8; n++) {
            k.window(n % 4, 100);
        }
        k.begin();
        for (int n = 0; n < 20; n++) {
            CHECK.same("the first tick of " + n, k.about(3), n % 4);
            k.run(99);
            CHECK.same("the last tick of " + n, k.about(3), n % 4);
            k.run(1);
        }
        CHECK.same("TIME", k.about(0), 2000);
    }

    private static void shortestFrame() {
        PartitionKernel k = new PartitionKernel();
        k.process(2, 0, 0, 0, 0);
        k.poke(2, 0, Asm.idle());
        k.window(2, 1);
        k.begin();
        for (int n = 0; n < 5; n++) {
            CHECK.same("its window", k.about(3), 2);
            CHECK.same("its tick", k.run(1), 1);
        }
        CHECK.same("and on", k.run(500), 500);
    }

    private static void eightChannelsWork() {
        PartitionKernel k = one(5, 0, 0, Asm.li(17, 8), Asm.addi(10, 6, 0), Asm.addi(11, 6, 90), Asm.CALL,
            Asm.addi(6, 6, 1), Asm.jal(0, -20));
        for (int c = 0; c < 8; c++) {
            CHECK.same("number", k.channel(c % 2 == 0, 0, c % 4, 3), c);
        }
        k.begin();
        k.run(6 * 8 + 4);
        for (int c = 0; c < 8; c++) {
            CHECK.same("words of " + c, k.traffic(c, 0), 1);
            CHECK.same("word of " + c, k.word(c, 0), 90 + c);
        }
        CHECK.same("the ninth is none", k.register(0, 0, 10), 1);
    }

    private static void channelToItself() {
        for (boolean queue : new boolean[] {true, false}) {
            PartitionKernel k = one(5, 0, 0, Asm.join(Asm.call(8, 0, 41), Asm.call(9, 0, 0)));
            k.channel(queue, 0, 0, 8);
            k.begin();
            k.run(8);
            CHECK.same("answer", k.register(0, 0, 10), 0);
            CHECK.same("x11", k.register(0, 0, 11), 41);
        }
    }

    private static void timeCountsTicks() {
        PartitionKernel k = one(5, 0, 0, Asm.li(17, 5), Asm.CALL);
        CHECK.same("ahead of begin()", k.about(0), 0);
        k.begin();
        CHECK.same("behind begin()", k.about(0), 0);
        k.run(2);
        CHECK.same("in its second tick it was 1", k.register(0, 0, 10), 1);
        CHECK.same("behind it", k.about(0), 2);
    }

    private static void prioritiesAtTheEdges() {
        PartitionKernel k = new PartitionKernel();
        for (int priority = 0; priority < 16; priority += 15) {
            k.process(0, 0, priority, 0, 0);
            k.process(0, 0, priority == 0 ? 1 : 14, 0, 0);
        }
        k.window(0, 1);
        k.poke(0, 0, Asm.CALL);
        k.begin();
        for (int due : new int[] {2, 3, 1, 0}) {
            CHECK.same("the greatest that is left", k.partition(0, 2), due);
            k.run(1);
        }
    }

    private static void periodNone() {
        PartitionKernel k = begun(0, 0, Asm.call(1, 0, 0));
        k.run(4);
        CHECK.same("call 1 answers", k.register(0, 0, 10), 1);
        CHECK.same("READY", k.state(0, 0, 0), 1);
    }

    private static void periodLeast() {
        PartitionKernel k = begun(1, 0, Asm.call(1, 0, 0));
        k.run(4);
        CHECK.same("call 1 answers", k.register(0, 0, 10), 0);
        CHECK.same("WAITS for", k.state(0, 0, 4), 1);
    }

    private static void periodGreatest() {
        PartitionKernel k = begun(100000, 0, Asm.join(Asm.call(1, 0, 0), Asm.words(Asm.CALL)));
        k.run(4);
        CHECK.same("WAITS for", k.state(0, 0, 4), 100000);
        runOn(k, 100000);
        CHECK.same("it WAITS still", k.state(0, 0, 0), 2);
        CHECK.same("at its time", k.run(1), 1);
        CHECK.same("WAITS for the next", k.state(0, 0, 4), 200000);
    }

    private static void runOn(PartitionKernel k, int time) {
        for (int left = time - k.about(0); left > 0; left -= 500) {
            k.run(Math.min(left, 500));
        }
    }

    private static void deadlineNone() {
        PartitionKernel k = begun(10, 0, Asm.join(Asm.call(1, 0, 0), Asm.words(Asm.idle())));
        CHECK.same("no DUE behind begin()", k.state(0, 0, 3), -1);
        k.run(4);
        CHECK.same("no DUE behind call 1", k.state(0, 0, 3), -1);
        k.run(500);
        CHECK.same("never too late", k.about(1), 0);
    }

    private static void deadlineLeast() {
        PartitionKernel k = begun(0, 1, Asm.idle());
        CHECK.same("DUE", k.state(0, 0, 3), 1);
        k.run(2);
        CHECK.same("in time at 1", k.about(1), 0);
        k.run(1);
        CHECK.same("too late at 2", k.error(0, 0), 2);
    }

    private static void deadlineGreatest() {
        PartitionKernel k = begun(0, 100000, Asm.idle());
        CHECK.same("DUE", k.state(0, 0, 3), 100000);
        runOn(k, 100001);
        CHECK.same("in time at 100000", k.about(1), 0);
        k.run(1);
        CHECK.same("too late at 100001", k.error(0, 0), 100001);
    }

    private static void registerNought() {
        int[] words = {Asm.lui(0, 4096), Asm.auipc(0, 4096), Asm.jal(0, 4), Asm.jalr(0, 0, 4), Asm.load(2, 0, 0, 0),
            Asm.li(0, 5), Asm.registers(0, 6, 0, 5, 5)};
        for (int word : words) {
            PartitionKernel k = begun(0, 0, word, Asm.addi(6, 0, 7));
            k.run(1);
            CHECK.same("x0 behind " + word, k.register(0, 0, 0), 0);
            k.run(1);
            CHECK.same("x0 + 7 behind " + word, k.register(0, 0, 6), 7);
        }
    }

    private static void dormantHasNoDue() {
        PartitionKernel ahead = one(5, 0, 90, Asm.idle());
        CHECK.same("ahead of begin()", ahead.state(0, 0, 3), -1);
        PartitionKernel k = begun(0, 90, Asm.call(0, 0, 0));
        k.run(3);
        CHECK.same("not DORMANT yet", k.state(0, 0, 3), 90);
        k.run(1);
        CHECK.same("by call 0", k.state(0, 0, 3), -1);
        PartitionKernel wrong = one(5, 0, 90, 0);
        wrong.action(0, 0, 1);
        wrong.begin();
        wrong.run(1);
        CHECK.same("by action 1", wrong.state(0, 0, 3), -1);
        k.run(200);
        wrong.run(200);
        CHECK.same("never too late", k.about(1) + wrong.about(1), 1);
    }

    /** Process 1 rests from tick 8 on; process 0 wakes at 292 and begins it in the tick 295. */
    private static PartitionKernel beganByCall3() {
        PartitionKernel k = one(9, 0, 0, Asm.join(Asm.call(2, 289, 0), Asm.call(3, 1, 0)));
        k.process(0, 256, 5, 0, 30);
        Asm.place(k, 0, 256, Asm.join(Asm.words(Asm.li(5, 9)), Asm.call(0, 7, 8)));
        k.begin();
        k.run(295);
        CHECK.same("DORMANT", k.state(0, 1, 0), 0);
        k.run(1);
        return k;
    }

    /** Process 1 goes wrong in the tick 7. */
    private static PartitionKernel beganByAction(int action) {
        PartitionKernel k = one(0, 0, 0, Asm.idle());
        k.process(0, 256, 5, 0, 30);
        Asm.place(k, 0, 256, Asm.li(5, 9), Asm.li(17, 9), Asm.li(31, 3), Asm.li(1, 3), Asm.li(10, 3), Asm.li(11, 3),
            Asm.li(30, 3), 0);
        k.action(0, 0, action);
        k.begin();
        k.run(8);
        CHECK.same("it went wrong", k.about(1), 1);
        return k;
    }

    private static void begunAnew(PartitionKernel k, int now) {
        for (int x = 0; x < 32; x++) {
            CHECK.same("x" + x, k.register(0, 1, x), 0);
        }
        CHECK.same("PC", k.state(0, 1, 1), 256);
        CHECK.same("READY", k.state(0, 1, 0), 1);
        CHECK.same("RELEASE", k.state(0, 1, 7), now);
        CHECK.same("DUE", k.state(0, 1, 3), now + 30);
        CHECK.same("waits for no time", k.state(0, 1, 4), -1);
        CHECK.same("waits for no semaphore", k.state(0, 1, 5), -1);
    }

    private static void beginWithoutDeadline() {
        for (int action = 2; action < 4; action++) {
            PartitionKernel k = one(5, 0, 0, Asm.li(5, 1), 0);
            k.action(0, 0, action);
            k.begin();
            CHECK.same("by begin()", k.state(0, 0, 3), -1);
            k.run(2);
            CHECK.same("by action " + action, k.state(0, 0, 3), -1);
            CHECK.same("RELEASE", k.state(0, 0, 7), 1);
        }
    }

    /** Process 0 does a call and stands still behind it; 1 and 2 stand still: all have one PRIORITY. */
    private static PartitionKernel three(int... program) {
        PartitionKernel k = one(5, 0, 0, program);
        k.process(0, 512, 5, 0, 0);
        k.process(0, 768, 5, 0, 0);
        Asm.place(k, 0, 512, Asm.idle());
        Asm.place(k, 0, 768, Asm.idle());
        return k;
    }

    private static void firsts(String what, PartitionKernel k, int... due) {
        for (int number : due) {
            CHECK.same(what, k.partition(0, 2), number);
            k.poke(0, 512, Asm.CALL);
            k.poke(0, 768, Asm.CALL);
            k.run(1);
        }
    }

    private static void behindByTime() {
        PartitionKernel k = three(Asm.join(Asm.call(2, 2, 0), Asm.words(Asm.CALL)));
        k.begin();
        k.run(8);
        CHECK.same("it is READY", k.state(0, 0, 0), 1);
        firsts("then 2, then it", k, 1, 2, 0);
    }

    private static void behindBySemaphore() {
        PartitionKernel k = three(Asm.join(Asm.call(6, 3, 0), Asm.words(Asm.CALL)));
        Asm.place(k, 0, 512, Asm.join(Asm.call(7, 3, 0), Asm.call(0, 0, 0)));
        k.begin();
        k.run(8);
        CHECK.same("it is READY", k.state(0, 0, 0), 1);
        CHECK.same("who gave goes on", k.partition(0, 2), 1);
        k.run(4);
        firsts("then 2, then it", k, 2, 0);
    }

    private static void behindByCall3() {
        PartitionKernel k = new PartitionKernel();
        k.process(0, 0, 5, 0, 0);
        k.process(0, 256, 5, 0, 0);
        k.process(0, 512, 5, 0, 0);
        k.window(0, 100);
        Asm.place(k, 0, 0, Asm.CALL);
        Asm.place(k, 0, 256, Asm.join(Asm.call(3, 0, 0), Asm.words(Asm.li(17, 0), Asm.CALL)));
        Asm.place(k, 0, 512, Asm.CALL);
        k.begin();
        k.run(5);
        CHECK.same("it is READY", k.state(0, 0, 0), 1);
        CHECK.same("who began it goes on", k.partition(0, 2), 1);
        k.run(2);
        CHECK.same("then 2", k.partition(0, 2), 2);
        k.run(1);
        CHECK.same("then it", k.partition(0, 2), 0);
    }

    private static void behindByAction2() {
        PartitionKernel k = three(0);
        k.action(0, 0, 2);
        k.begin();
        k.run(1);
        CHECK.same("it is READY", k.state(0, 0, 0), 1);
        firsts("1, then 2, then it", k, 1, 2, 0);
    }

    private static void behindByAction3() {
        PartitionKernel k = three(Asm.join(Asm.call(2, 1, 0), Asm.words(Asm.idle())));
        k.poke(0, 516, 0);
        k.action(0, 0, 3);
        k.begin();
        k.run(6);
        CHECK.same("0 stands behind 1 and 2", k.partition(0, 2), 1);
        k.poke(0, 512, 0);
        k.run(1);
        CHECK.same("all BEGAN", k.partition(0, 3), 1);
        k.poke(0, 0, Asm.CALL);
        firsts("by numbers again", k, 0, 1, 2);
    }

    private static void behindByErrorOfAnother() {
        PartitionKernel k = new PartitionKernel();
        k.process(0, 0, 5, 0, 3);
        k.process(0, 4, 5, 0, 0);
        k.window(0, 100);
        Asm.place(k, 0, 0, Asm.idle(), Asm.idle());
        k.action(0, 2, 2);
        k.begin();
        k.run(4);
        CHECK.same("it is first", k.partition(0, 2), 0);
        k.run(1);
        CHECK.same("it BEGAN and stands behind", k.partition(0, 2), 1);
        CHECK.same("the other did the tick", k.state(0, 1, 6), 1);
    }

    private TermsTest() {
    }
}
