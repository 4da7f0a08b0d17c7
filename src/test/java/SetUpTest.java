import java.util.function.Consumer;

/** Promises 1 to 7, sentence by sentence: what is set up ahead of the first tick, and what is refused. */
final class SetUpTest {
    private static final Class<IndexOutOfBoundsException> INDEX = IndexOutOfBoundsException.class;
    private static final Class<IllegalArgumentException> ARGUMENT = IllegalArgumentException.class;
    private static final Class<IllegalStateException> STATE = IllegalStateException.class;
    private static final Check CHECK = new Check("SetUpTest");
    private static final int LEAST = Integer.MIN_VALUE;
    private static final int GREATEST = Integer.MAX_VALUE;
    private static final int[] NO_PARTITIONS = {-1, 4, 5, LEAST, GREATEST};
    private static final int[] NO_SPANS = {-1, 100001, LEAST, GREATEST};

    public static void main(String[] args) {
        CHECK.sentence("1: Nothing is set up; TIME is 0", SetUpTest::nothingIsSetUp);
        CHECK.sentence("1: A new object, and no other's", SetUpTest::objectsAreApart);
        window();
        process();
        channel();
        action();
        poke();
        begin();
        CHECK.finish();
    }

    private static void window() {
        CHECK.sentence("2: A window comes behind the FRAME", SetUpTest::windowsInTheirOrder);
        CHECK.sentence("2: IndexOutOfBounds: no such partition", SetUpTest::windowOfNoPartition);
        CHECK.sentence("2: IllegalArgument: ticks are not 1 .. 100", SetUpTest::windowOfOtherTicks);
        CHECK.sentence("2: ticks 1 .. 100", SetUpTest::windowOfTicksAtTheEdges);
        CHECK.sentence("2: IllegalState: it has begun", SetUpTest::windowBehindBegin);
        CHECK.sentence("2: IllegalState: there are 8", SetUpTest::ninthWindow);
        CHECK.sentence("2: which refusal comes first", SetUpTest::windowRefusedTwice);
    }

    private static void process() {
        CHECK.sentence("3: its number there", SetUpTest::processNumbers);
        CHECK.sentence("3: IndexOutOfBounds: no such partition", SetUpTest::processOfNoPartition);
        CHECK.sentence("3: IllegalArgument: priority is not 0 .. 15", SetUpTest::processOfOtherPriority);
        CHECK.sentence("3: IllegalArgument: period not 0 .. 100000", SetUpTest::processOfOtherPeriod);
        CHECK.sentence("3: IllegalArgument: deadline not 0 .. 100000", SetUpTest::processOfOtherDeadline);
        CHECK.sentence("3: priority, period, deadline at their edges", SetUpTest::processAtTheEdges);
        CHECK.sentence("3: any entry", SetUpTest::processOfAnyEntry);
        CHECK.sentence("3: IllegalState: it has begun", SetUpTest::processBehindBegin);
        CHECK.sentence("3: IllegalState: there are 8", SetUpTest::ninthProcess);
        CHECK.sentence("3: which refusal comes first", SetUpTest::processRefusedTwice);
    }

    private static void channel() {
        CHECK.sentence("4: its number", SetUpTest::channelNumbers);
        CHECK.sentence("4: IndexOutOfBounds: no such partitions", SetUpTest::channelOfNoPartitions);
        CHECK.sentence("4: IllegalArgument: a QUEUE's limit not 1 .. 8", SetUpTest::queueOfOtherLimit);
        CHECK.sentence("4: IllegalArgument: a SAMPLE's limit not 0 .. 100000", SetUpTest::sampleOfOtherLimit);
        CHECK.sentence("4: a QUEUE for limit words, 1 .. 8", SetUpTest::queuesAtTheEdges);
        CHECK.sentence("4: a SAMPLE, 0 .. 100000", SetUpTest::samplesAtTheEdges);
        CHECK.sentence("4: IllegalState: it has begun", SetUpTest::channelBehindBegin);
        CHECK.sentence("4: IllegalState: there are 8", SetUpTest::ninthChannel);
        CHECK.sentence("4: which refusal comes first", SetUpTest::channelRefusedTwice);
    }

    private static void action() {
        CHECK.sentence("5: A partition's ACTION for an error", SetUpTest::actionOfEachPartition);
        CHECK.sentence("5: ahead of begin() and behind it", SetUpTest::actionAtAnyTime);
        CHECK.sentence("5: IndexOutOfBounds: no such partition", SetUpTest::actionOfNoPartition);
        CHECK.sentence("5: IndexOutOfBounds: no such error", SetUpTest::actionForNoError);
        CHECK.sentence("5: IllegalArgument: no such action", SetUpTest::noSuchAction);
        CHECK.sentence("5: which refusal comes first", SetUpTest::actionRefusedTwice);
    }

    private static void poke() {
        CHECK.sentence("6: A word of a partition's MEMORY", SetUpTest::pokeEachPlace);
        CHECK.sentence("6: at any time", SetUpTest::pokeAtAnyTime);
        CHECK.sentence("6: IndexOutOfBounds: no such partition", SetUpTest::pokeOfNoPartition);
        CHECK.sentence("6: IndexOutOfBounds: no such place (a multiple of 4 below 1024)", SetUpTest::pokeAtNoPlace);
    }

    private static void begin() {
        CHECK.sentence("7: all processes BEGIN", SetUpTest::allProcessesBegin);
        CHECK.sentence("7: by partitions, then numbers", SetUpTest::beginByNumbers);
        CHECK.sentence("7: one window is enough", SetUpTest::beginWithoutProcesses);
        CHECK.sentence("7: IllegalState: it has begun", SetUpTest::beginAgain);
        CHECK.sentence("7: IllegalState: there is no window", SetUpTest::beginWithoutWindow);
    }

    private static void refused(Stage[] stages, String call, Class<? extends RuntimeException> due,
            Consumer<PartitionKernel> does) {
        for (Stage stage : stages) {
            stage.refuses(CHECK, call, due, does);
        }
    }

    private static void refusedAlways(String call, Class<? extends RuntimeException> due, Consumer<PartitionKernel> does) {
        refused(Stage.all(), call, due, does);
    }

    private static void nothingIsSetUp() {
        PartitionKernel k = new PartitionKernel();
        CHECK.same("NONE", PartitionKernel.NONE, -1);
        int[] about = {0, 0, 0, -1};
        for (int what = 0; what < 4; what++) {
            CHECK.same("about(" + what + ")", k.about(what), about[what]);
            CHECK.same("error(0, " + what + ")", k.error(0, what), -1);
        }
        int[] partition = {0, 0, -1, 0, 0, 0, 0, 0};
        for (int p = 0; p < 4; p++) {
            for (int what = 0; what < 8; what++) {
                CHECK.same("partition(" + p + ", " + what + ")", k.partition(p, what), partition[what]);
                CHECK.same("state(" + p + ", 0, " + what + ")", k.state(p, 0, what), -1);
            }
            CHECK.same("register(" + p + ", 0, 1)", k.register(p, 0, 1), 0);
        }
        CHECK.same("traffic(0, 0)", k.traffic(0, 0), -1);
        CHECK.same("traffic(0, 1)", k.traffic(0, 1), -1);
        CHECK.same("word(0, 0)", k.word(0, 0), 0);
        CHECK.refuses("begin()", STATE, k::begin);
        CHECK.refuses("run(0)", STATE, () -> k.run(0));
    }

    private static void objectsAreApart() {
        int[] looks = Looks.behind(k -> { });
        int[] beside = Looks.behind(k -> Stage.RUNNING.kernel());
        CHECK.same("what another object changed", Looks.difference(beside, looks), "none");
    }

    private static void windowsInTheirOrder() {
        PartitionKernel k = new PartitionKernel();
        int[] owners = {2, 0, 2, 3, 1, 1, 0, 3};
        int[] ticks = {1, 3, 2, 1, 4, 1, 5, 2};
        for (int n = 0; n < 8; n++) {
            k.window(owners[n], ticks[n]);
        }
        k.begin();
        for (int n = 0; n < 8; n++) {
            for (int t = 0; t < ticks[n]; t++) {
                CHECK.same("window " + n + " tick " + t, k.about(3), owners[n]);
                k.run(1);
            }
        }
        CHECK.same("and from the first on", k.about(3), 2);
    }

    private static void windowOfNoPartition() {
        for (int p : NO_PARTITIONS) {
            refusedAlways("window(" + p + ", 1)", INDEX, k -> k.window(p, 1));
        }
    }

    private static void windowOfOtherTicks() {
        for (int ticks : new int[] {0, -1, 101, LEAST, GREATEST}) {
            refusedAlways("window(3, " + ticks + ")", ARGUMENT, k -> k.window(3, ticks));
        }
    }

    private static void windowOfTicksAtTheEdges() {
        PartitionKernel k = new PartitionKernel();
        CHECK.accepts("window(0, 1)", () -> k.window(0, 1));
        CHECK.accepts("window(3, 100)", () -> k.window(3, 100));
        CHECK.accepts("window(1, 1)", () -> k.window(1, 1));
        k.begin();
        CHECK.same("its one tick", k.about(3), 0);
        k.run(1);
        CHECK.same("the first of 100", k.about(3), 3);
        k.run(99);
        CHECK.same("the last of 100", k.about(3), 3);
        k.run(1);
        CHECK.same("behind it", k.about(3), 1);
    }

    private static void windowBehindBegin() {
        for (int p = 0; p < 4; p++) {
            int home = p;
            refused(Stage.behindBegin(), "window(" + p + ", 1)", STATE, k -> k.window(home, 1));
            refused(Stage.behindBegin(), "window(" + p + ", 100)", STATE, k -> k.window(home, 100));
        }
    }

    private static void ninthWindow() {
        PartitionKernel k = new PartitionKernel();
        for (int n = 0; n < 8; n++) {
            CHECK.accepts("window " + n, () -> k.window(1, 1));
        }
        for (int p = 0; p < 4; p++) {
            int home = p;
            Stage.FULL.refuses(CHECK, "window(" + p + ", 1)", STATE, full -> full.window(home, 1));
        }
    }

    private static void windowRefusedTwice() {
        refusedAlways("window(4, 0)", INDEX, k -> k.window(4, 0));
        refusedAlways("window(-1, 101)", INDEX, k -> k.window(-1, 101));
        refused(Stage.behindBegin(), "window(0, 0)", ARGUMENT, k -> k.window(0, 0));
        Stage.FULL.refuses(CHECK, "window(0, 101)", ARGUMENT, k -> k.window(0, 101));
    }

    private static void processNumbers() {
        PartitionKernel k = new PartitionKernel();
        for (int n = 0; n < 8; n++) {
            for (int p = 0; p < 4; p++) {
                CHECK.same("process of " + p, k.process(p, 4 * n, (n + p) % 16, n, 2 * n), n);
                CHECK.same("how many", k.partition(p, 1), n + 1);
                CHECK.same("PRIORITY", k.state(p, n, 2), (n + p) % 16);
                CHECK.same("the next one is none", k.state(p, n + 1, 2), -1);
            }
        }
    }

    private static void processOfNoPartition() {
        for (int p : NO_PARTITIONS) {
            refusedAlways("process(" + p + ", 0, 0, 0, 0)", INDEX, k -> k.process(p, 0, 0, 0, 0));
        }
    }

    private static void processOfOtherPriority() {
        for (int priority : new int[] {-1, 16, LEAST, GREATEST}) {
            refusedAlways("priority " + priority, ARGUMENT, k -> k.process(1, 0, priority, 0, 0));
        }
    }

    private static void processOfOtherPeriod() {
        for (int period : NO_SPANS) {
            refusedAlways("period " + period, ARGUMENT, k -> k.process(2, 0, 0, period, 0));
        }
    }

    private static void processOfOtherDeadline() {
        for (int deadline : NO_SPANS) {
            refusedAlways("deadline " + deadline, ARGUMENT, k -> k.process(3, 0, 0, 0, deadline));
        }
    }

    private static void processAtTheEdges() {
        PartitionKernel k = new PartitionKernel();
        CHECK.same("the least", k.process(0, 0, 0, 0, 0), 0);
        CHECK.same("the greatest", k.process(0, 0, 15, 100000, 100000), 1);
        CHECK.same("the least above none", k.process(0, 0, 1, 1, 1), 2);
        k.window(0, 1);
        k.begin();
        int[] priorities = {0, 15, 1};
        int[] dues = {-1, 100000, 1};
        for (int n = 0; n < 3; n++) {
            CHECK.same("PRIORITY of " + n, k.state(0, n, 2), priorities[n]);
            CHECK.same("DUE of " + n, k.state(0, n, 3), dues[n]);
        }
    }

    private static void processOfAnyEntry() {
        int[] entries = {LEAST, -4, -1, 1, 1020, 1024, GREATEST};
        PartitionKernel k = new PartitionKernel();
        for (int n = 0; n < entries.length; n++) {
            CHECK.same("entry " + entries[n], k.process(0, entries[n], 0, 0, 0), n);
        }
        k.window(0, 1);
        k.begin();
        for (int n = 0; n < entries.length; n++) {
            CHECK.same("PC", k.state(0, n, 1), entries[n]);
        }
    }

    private static void processBehindBegin() {
        for (int p = 0; p < 4; p++) {
            int home = p;
            refused(Stage.behindBegin(), "process(" + p + ", ..)", STATE, k -> k.process(home, 0, 0, 0, 0));
            refused(Stage.behindBegin(), "process(" + p + ", ..)", STATE, k -> k.process(home, 4, 15, 100000, 100000));
        }
    }

    private static void ninthProcess() {
        PartitionKernel k = new PartitionKernel();
        for (int n = 0; n < 8; n++) {
            k.process(1, 0, 0, 0, 0);
        }
        CHECK.refuses("the ninth", STATE, () -> k.process(1, 0, 0, 0, 0));
        CHECK.same("another partition's first", k.process(2, 0, 0, 0, 0), 0);
        CHECK.same("still 8", k.partition(1, 1), 8);
        for (int p = 0; p < 4; p++) {
            int home = p;
            Stage.FULL.refuses(CHECK, "process(" + p + ", ..)", STATE, full -> full.process(home, 0, 0, 0, 0));
        }
    }

    private static void processRefusedTwice() {
        refusedAlways("process(4, 0, 16, 0, 0)", INDEX, k -> k.process(4, 0, 16, 0, 0));
        refusedAlways("process(-1, 0, 0, -1, 0)", INDEX, k -> k.process(-1, 0, 0, -1, 0));
        refusedAlways("process(-1, 0, 0, 0, 100001)", INDEX, k -> k.process(-1, 0, 0, 0, 100001));
        refused(Stage.behindBegin(), "process(0, 0, 16, 0, 0)", ARGUMENT, k -> k.process(0, 0, 16, 0, 0));
        refused(Stage.behindBegin(), "process(0, 0, 0, -1, 0)", ARGUMENT, k -> k.process(0, 0, 0, -1, 0));
        refused(Stage.behindBegin(), "process(0, 0, 0, 0, -1)", ARGUMENT, k -> k.process(0, 0, 0, 0, -1));
        Stage.FULL.refuses(CHECK, "process(0, 0, -1, 0, 0)", ARGUMENT, k -> k.process(0, 0, -1, 0, 0));
    }

    private static void channelNumbers() {
        PartitionKernel k = new PartitionKernel();
        for (int n = 0; n < 8; n++) {
            CHECK.same("none yet", k.traffic(n, 0), -1);
            CHECK.same("channel", k.channel(n % 3 == 0, n % 4, n / 2, 1), n);
            CHECK.same("it is there", k.traffic(n, 0), 0);
        }
    }

    private static void channelOfNoPartitions() {
        for (int p : NO_PARTITIONS) {
            refusedAlways("channel(true, " + p + ", 0, 1)", INDEX, k -> k.channel(true, p, 0, 1));
            refusedAlways("channel(true, 3, " + p + ", 1)", INDEX, k -> k.channel(true, 3, p, 1));
            refusedAlways("channel(false, " + p + ", 3, 1)", INDEX, k -> k.channel(false, p, 3, 1));
            refusedAlways("channel(false, 0, " + p + ", 1)", INDEX, k -> k.channel(false, 0, p, 1));
        }
    }

    private static void queueOfOtherLimit() {
        for (int limit : new int[] {0, -1, 9, 100000, LEAST, GREATEST}) {
            refusedAlways("channel(true, 0, 1, " + limit + ")", ARGUMENT, k -> k.channel(true, 0, 1, limit));
        }
    }

    private static void sampleOfOtherLimit() {
        for (int limit : NO_SPANS) {
            refusedAlways("channel(false, 0, 1, " + limit + ")", ARGUMENT, k -> k.channel(false, 0, 1, limit));
        }
    }

    /** Twelve words are sent to a queue of each limit: so many as the limit come to it. */
    private static void queuesAtTheEdges() {
        for (int limit = 1; limit <= 8; limit++) {
            PartitionKernel k = new PartitionKernel();
            k.process(0, 0, 0, 0, 0);
            k.window(0, 1);
            Asm.place(k, 0, 0, Asm.li(17, 8), Asm.addi(11, 11, 1), Asm.li(10, 0), Asm.CALL, Asm.jal(0, -12));
            CHECK.same("a queue of " + limit, k.channel(true, 0, 3, limit), 0);
            k.begin();
            k.run(48);
            CHECK.same("words of a queue of " + limit, k.traffic(0, 0), limit);
            CHECK.same("its last word", k.word(0, limit - 1), limit);
        }
    }

    private static void samplesAtTheEdges() {
        PartitionKernel k = new PartitionKernel();
        CHECK.same("limit 0", k.channel(false, 0, 1, 0), 0);
        CHECK.same("limit 9, which no queue has", k.channel(false, 0, 1, 9), 1);
        CHECK.same("limit 100000", k.channel(false, 3, 3, 100000), 2);
    }

    private static void channelBehindBegin() {
        refused(Stage.behindBegin(), "channel(true, 0, 1, 1)", STATE, k -> k.channel(true, 0, 1, 1));
        refused(Stage.behindBegin(), "channel(true, 0, 3, 8)", STATE, k -> k.channel(true, 0, 3, 8));
        refused(Stage.behindBegin(), "channel(false, 3, 3, 0)", STATE, k -> k.channel(false, 3, 3, 0));
    }

    private static void ninthChannel() {
        Stage.FULL.refuses(CHECK, "channel(true, 0, 1, 8)", STATE, k -> k.channel(true, 0, 1, 8));
        Stage.FULL.refuses(CHECK, "channel(false, 3, 0, 100000)", STATE, k -> k.channel(false, 3, 0, 100000));
    }

    private static void channelRefusedTwice() {
        refusedAlways("channel(true, 4, 0, 0)", INDEX, k -> k.channel(true, 4, 0, 0));
        refusedAlways("channel(false, 0, -1, -1)", INDEX, k -> k.channel(false, 0, -1, -1));
        refused(Stage.behindBegin(), "channel(true, 0, 0, 9)", ARGUMENT, k -> k.channel(true, 0, 0, 9));
        refused(Stage.behindBegin(), "channel(false, 0, 0, -1)", ARGUMENT, k -> k.channel(false, 0, 0, -1));
        Stage.FULL.refuses(CHECK, "channel(true, 0, 0, 0)", ARGUMENT, k -> k.channel(true, 0, 0, 0));
    }

    /** Only the partition and the error that were told have the action; all others have 0. */
    private static void actionOfEachPartition() {
        for (int told = 0; told < 4; told++) {
            PartitionKernel k = new PartitionKernel();
            for (int p = 0; p < 4; p++) {
                k.process(p, 0, 0, 0, 0);
                k.window(p, 2);
                Asm.place(k, p, 0, 0, Asm.load(2, 1, 0, 1));
            }
            k.action(told, 1, 4);
            k.begin();
            k.run(8);
            for (int p = 0; p < 4; p++) {
                CHECK.same("STOPPED " + p + " of " + told, k.partition(p, 0), p == told ? 1 : 0);
            }
        }
    }

    private static void actionAtAnyTime() {
        PartitionKernel k = new PartitionKernel();
        k.process(1, 0, 0, 0, 0);
        k.window(1, 1);
        k.action(1, 0, 1);
        k.action(1, 0, 2);
        k.begin();
        k.run(3);
        CHECK.same("the later of two: it BEGINS again", k.state(1, 0, 7), 2);
        k.action(1, 0, 0);
        k.run(1);
        CHECK.same("0 again: PC is 4 more", k.state(1, 0, 1), 4);
        k.action(1, 0, 4);
        k.run(1);
        CHECK.same("STOPPED", k.partition(1, 0), 1);
    }

    private static void actionOfNoPartition() {
        for (int p : NO_PARTITIONS) {
            refusedAlways("action(" + p + ", 0, 0)", INDEX, k -> k.action(p, 0, 0));
        }
    }

    private static void actionForNoError() {
        for (int error : new int[] {-1, 4, LEAST, GREATEST}) {
            for (int p = 0; p < 4; p++) {
                int home = p;
                refusedAlways("action(" + p + ", " + error + ", 0)", INDEX, k -> k.action(home, error, 0));
            }
        }
    }

    private static void noSuchAction() {
        for (int action : new int[] {-1, 5, LEAST, GREATEST}) {
            for (int error = 0; error < 4; error++) {
                int kind = error;
                refusedAlways("action(2, " + error + ", " + action + ")", ARGUMENT, k -> k.action(2, kind, action));
            }
        }
    }

    private static void actionRefusedTwice() {
        refusedAlways("action(4, 0, 5)", INDEX, k -> k.action(4, 0, 5));
        refusedAlways("action(0, 4, -1)", INDEX, k -> k.action(0, 4, -1));
    }

    /** In four objects, because one is promised for 512 calls. */
    private static void pokeEachPlace() {
        for (int p = 0; p < 4; p++) {
            PartitionKernel k = new PartitionKernel();
            for (int place = 0; place < 1024; place += 4) {
                k.poke(p, place, 0x81234567 + place);
            }
            for (int place = 0; place < 1024; place += 8) {
                CHECK.same("peek(" + p + ", " + place + ")", k.peek(p, place), 0x81234567 + place);
            }
            CHECK.same("the last one", k.peek(p, 1020), 0x81234567 + 1020);
            for (int other = 0; other < 4; other++) {
                CHECK.same("another partition", k.peek(other, 1020) == 0 ? 1 : 0, other == p ? 0 : 1);
            }
        }
    }

    private static void pokeAtAnyTime() {
        for (Stage stage : Stage.all()) {
            PartitionKernel k = stage.kernel();
            for (int word : new int[] {LEAST, -1, 0, GREATEST}) {
                CHECK.accepts("poke when " + stage.name, () -> k.poke(1, 1020, word));
                CHECK.same("peek when " + stage.name, k.peek(1, 1020), word);
            }
        }
        PartitionKernel k = new PartitionKernel();
        k.process(0, 0, 0, 0, 0);
        k.window(0, 1);
        k.begin();
        k.poke(0, 0, Asm.li(5, 9));
        k.run(1);
        CHECK.same("what was poked behind begin() is done", k.register(0, 0, 5), 9);
    }

    private static void pokeOfNoPartition() {
        for (int p : NO_PARTITIONS) {
            refusedAlways("poke(" + p + ", 0, 1)", INDEX, k -> k.poke(p, 0, 1));
        }
    }

    private static void pokeAtNoPlace() {
        for (int place : new int[] {-4, -1, 1, 2, 3, 5, 6, 7, 1021, 1022, 1023, 1024, 1028, LEAST, GREATEST, GREATEST - 3}) {
            refusedAlways("poke(3, " + place + ", 1)", INDEX, k -> k.poke(3, place, 1));
        }
    }

    private static void allProcessesBegin() {
        PartitionKernel k = new PartitionKernel();
        for (int p = 0; p < 4; p++) {
            for (int n = 0; n < 8; n++) {
                k.process(p, 4 * n + 64 * p, n, 5, 10 * n);
            }
        }
        k.window(3, 2);
        k.begin();
        for (int p = 0; p < 4; p++) {
            for (int n = 0; n < 8; n++) {
                int[] due = {1, 4 * n + 64 * p, n, n == 0 ? -1 : 10 * n, -1, -1, 0, 0};
                for (int what = 0; what < 8; what++) {
                    CHECK.same("state(" + p + ", " + n + ", " + what + ")", k.state(p, n, what), due[what]);
                }
            }
            CHECK.same("it began, but not again", k.partition(p, 3), 0);
        }
        CHECK.same("TIME", k.about(0), 0);
        CHECK.same("the window", k.about(3), 3);
    }

    private static void beginByNumbers() {
        for (int p = 0; p < 4; p++) {
            PartitionKernel k = new PartitionKernel();
            for (int n = 0; n < 8; n++) {
                k.process(p, 0, n == 0 ? 3 : 9, 0, 0);
            }
            k.window(p, 1);
            k.poke(p, 0, Asm.CALL);
            k.begin();
            for (int n = 1; n < 8; n++) {
                CHECK.same("the first of the greatest of " + p, k.partition(p, 2), n);
                k.run(1);
            }
            CHECK.same("the least comes last", k.partition(p, 2), 0);
        }
    }

    private static void beginWithoutProcesses() {
        PartitionKernel k = new PartitionKernel();
        k.window(2, 1);
        CHECK.accepts("begin()", k::begin);
        CHECK.same("run(3)", k.run(3), 0);
        CHECK.same("TIME", k.about(0), 3);
    }

    private static void beginAgain() {
        refused(Stage.behindBegin(), "begin()", STATE, PartitionKernel::begin);
    }

    private static void beginWithoutWindow() {
        Stage.NEW.refuses(CHECK, "begin()", STATE, PartitionKernel::begin);
        Stage.NO_WINDOW.refuses(CHECK, "begin()", STATE, PartitionKernel::begin);
        PartitionKernel k = new PartitionKernel();
        Check.thrownBy(() -> k.window(0, 101));
        CHECK.refuses("begin() behind a refused window", STATE, k::begin);
    }

    private SetUpTest() {
    }
}
