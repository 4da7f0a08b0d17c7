/** Promises 8 to 16, sentence by sentence: run, and what the calls that only look answer. */
final class LookTest {
    private static final Class<IllegalArgumentException> ARGUMENT = IllegalArgumentException.class;
    private static final Class<IllegalStateException> STATE = IllegalStateException.class;
    private static final Check CHECK = new Check("LookTest");
    private static final int LEAST = Integer.MIN_VALUE;
    private static final int GREATEST = Integer.MAX_VALUE;
    private static final int[] NO_PARTITIONS = {-1, 4, 5, LEAST, GREATEST};
    private static final int[] NO_PROCESSES = {-1, 8, 9, LEAST, GREATEST};
    private static final int[] NO_CHANNELS = {-1, 8, 9, LEAST, GREATEST};

    public static void main(String[] args) {
        run();
        peekAndRegister();
        state();
        partition();
        channels();
        errorAndAbout();
        CHECK.sentence("9 to 16: looks change nothing and throw nothing", LookTest::looksOnlyLook);
        CHECK.finish();
    }

    private static void run() {
        CHECK.sentence("8: n ticks, 0 .. 500", LookTest::runTakesItsTicks);
        CHECK.sentence("8: n ticks at once or one by one", LookTest::runInParts);
        CHECK.sentence("8: how many instructions were done", LookTest::runCountsInstructions);
        CHECK.sentence("8: also such as went wrong", LookTest::runCountsWrongOnes);
        CHECK.sentence("8: IllegalArgument: n is not 0 .. 500", LookTest::runOfOtherTicks);
        CHECK.sentence("8: IllegalState: it has not begun", LookTest::runAheadOfBegin);
        CHECK.sentence("8: this first", LookTest::runRefusedTwice);
    }

    private static void peekAndRegister() {
        CHECK.sentence("9: A word of MEMORY", LookTest::peekAtWords);
        CHECK.sentence("9: 0 if there is none such: partition", LookTest::peekOfNoPartition);
        CHECK.sentence("9: 0 if there is none such: place", LookTest::peekAtNoPlace);
        CHECK.sentence("10: A register of a process", LookTest::registersOfAProcess);
        CHECK.sentence("10: 0 if there is none such: register", LookTest::noSuchRegister);
        CHECK.sentence("10: 0 if there is none such: process", LookTest::registerOfNoProcess);
    }

    private static void state() {
        CHECK.sentence("11: STATE, PC, PRIORITY, DUE, time, semaphore, instructions, RELEASE", LookTest::stateInEachState);
        CHECK.sentence("11: DUE (3; NONE without)", LookTest::dueOrNone);
        CHECK.sentence("11: the time that it WAITS for (4; NONE else)", LookTest::waitTimeOrNone);
        CHECK.sentence("11: the semaphore (5; NONE else)", LookTest::semaphoreOrNone);
        CHECK.sentence("11: NONE if there is none such", LookTest::stateOfNoProcess);
        CHECK.sentence("11: NONE for another what", LookTest::stateOfAnotherWhat);
        CHECK.sentence("11: ahead of begin()", LookTest::stateAheadOfBegin);
    }

    private static void partition() {
        CHECK.sentence("12: 1 if it is STOPPED", LookTest::stoppedOrNot);
        CHECK.sentence("12: how many processes", LookTest::howManyProcesses);
        CHECK.sentence("12: which one is first by what is READY now", LookTest::firstByWhatIsReady);
        CHECK.sentence("12: which one is first: NONE", LookTest::nobodyIsFirst);
        CHECK.sentence("12: how often it began again", LookTest::howOftenItBeganAgain);
        CHECK.sentence("12: counts of semaphores 0 .. 3", LookTest::countsOfSemaphores);
        CHECK.sentence("12: NONE for another what", LookTest::partitionOfAnotherWhat);
        CHECK.sentence("12: NONE for another partition", LookTest::noSuchPartition);
    }

    private static void channels() {
        CHECK.sentence("13: how many words it has", LookTest::wordsOfAQueue);
        CHECK.sentence("13: a SAMPLE 0 or 1", LookTest::wordsOfASample);
        CHECK.sentence("13: the time of a SAMPLE (1; NONE)", LookTest::timeOfASample);
        CHECK.sentence("13: NONE for another what", LookTest::trafficOfAnotherWhat);
        CHECK.sentence("13: NONE if there is none such", LookTest::trafficOfNoChannel);
        CHECK.sentence("14: Word k, the first to go first", LookTest::wordsInTheirOrder);
        CHECK.sentence("14: 0 if there is none", LookTest::noSuchWord);
        CHECK.sentence("14: 0 if there is none: the word went", LookTest::wordsThatWent);
    }

    private static void errorAndAbout() {
        CHECK.sentence("15: its time, partition, process, kind", LookTest::errorsOfEachKind);
        CHECK.sentence("15: the k-th latest, of the 64 that are kept", LookTest::latestErrors);
        CHECK.sentence("15: NONE if there is none such", LookTest::noSuchError);
        CHECK.sentence("15: NONE for another what", LookTest::errorOfAnotherWhat);
        CHECK.sentence("16: TIME, errors in all, instructions in all", LookTest::aboutAll);
        CHECK.sentence("16: the partition whose window it is now", LookTest::aboutTheWindow);
        CHECK.sentence("16: NONE ahead of begin()", LookTest::aboutAheadOfBegin);
        CHECK.sentence("16: NONE for another what", LookTest::aboutAnotherWhat);
    }

    /** Partition 0 alone, with one process of a program at 0. */
    private static PartitionKernel one(int... program) {
        PartitionKernel k = new PartitionKernel();
        k.process(0, 0, 5, 0, 0);
        k.window(0, 10);
        Asm.place(k, 0, 0, program);
        return k;
    }

    private static PartitionKernel begun(int... program) {
        PartitionKernel k = one(program);
        k.begin();
        return k;
    }

    private static void runTakesItsTicks() {
        PartitionKernel k = begun(Asm.idle());
        int time = 0;
        for (int n : new int[] {0, 1, 0, 500, 499, 2, 500, 0}) {
            CHECK.same("run(" + n + ")", k.run(n), n);
            time += n;
            CHECK.same("TIME", k.about(0), time);
        }
    }

    private static void runInParts() {
        int[] atOnce = Looks.behind(k -> runParts(k, 240));
        int[] oneByOne = Looks.behind(k -> runParts(k, 4));
        CHECK.same("what differs", Looks.difference(oneByOne, atOnce), "none");
    }

    private static void runParts(PartitionKernel k, int n) {
        k.process(0, 0, 5, 0, 11);
        k.process(2, 0, 5, 7, 0);
        Asm.place(k, 0, 0, Asm.join(Asm.call(2, 3, 0), Asm.call(7, 1, 0)));
        Asm.place(k, 2, 0, Asm.join(Asm.call(1, 0, 0), Asm.words(Asm.jal(0, -16))));
        k.window(0, 3);
        k.window(2, 5);
        k.begin();
        for (int t = 0; t < 240; t += n) {
            k.run(n);
        }
    }

    private static void runCountsInstructions() {
        PartitionKernel k = one(Asm.li(1, 1), Asm.li(17, 0), Asm.CALL);
        k.window(1, 3);
        k.begin();
        CHECK.same("the rest of a window with none READY", k.run(10), 3);
        CHECK.same("a window of a partition with no process", k.run(3), 0);
        CHECK.same("all are DORMANT", k.run(13), 0);
        CHECK.same("instructions in all", k.about(2), 3);
        CHECK.same("TIME", k.about(0), 26);
    }

    private static void runCountsWrongOnes() {
        PartitionKernel k = begun(0, Asm.load(2, 1, 0, 1), Asm.li(17, 10), Asm.CALL, Asm.jal(0, 2048));
        CHECK.same("kinds 0, 1, 3 among others", k.run(5), 5);
        CHECK.same("errors", k.about(1), 3);
        CHECK.same("where no instruction stands", k.run(2), 2);
        CHECK.same("its instructions", k.state(0, 0, 6), 7);
    }

    private static void runOfOtherTicks() {
        for (int n : new int[] {-1, 501, LEAST, GREATEST}) {
            for (Stage stage : Stage.behindBegin()) {
                stage.refuses(CHECK, "run(" + n + ")", ARGUMENT, k -> k.run(n));
            }
        }
    }

    private static void runAheadOfBegin() {
        for (int n : new int[] {0, 1, 500}) {
            for (Stage stage : Stage.aheadOfBegin()) {
                stage.refuses(CHECK, "run(" + n + ")", STATE, k -> k.run(n));
            }
        }
    }

    private static void runRefusedTwice() {
        for (int n : new int[] {-1, 501, LEAST, GREATEST}) {
            for (Stage stage : Stage.aheadOfBegin()) {
                stage.refuses(CHECK, "run(" + n + ")", STATE, k -> k.run(n));
            }
        }
    }

    private static void peekAtWords() {
        PartitionKernel k = one(Asm.idle());
        k.poke(0, 4, 0x55667788);
        k.poke(0, 1020, -5);
        k.poke(2, 1020, -7);
        CHECK.same("peek(0, 0)", k.peek(0, 0), Asm.idle());
        CHECK.same("peek(0, 4)", k.peek(0, 4), 0x55667788);
        CHECK.same("peek(0, 8)", k.peek(0, 8), 0);
        CHECK.same("peek(0, 1020)", k.peek(0, 1020), -5);
        CHECK.same("peek(1, 1020)", k.peek(1, 1020), 0);
        CHECK.same("peek(2, 1020)", k.peek(2, 1020), -7);
    }

    private static PartitionKernel fullMemories() {
        PartitionKernel k = new PartitionKernel();
        for (int p = 0; p < 4; p++) {
            for (int place : new int[] {0, 4, 8, 1016, 1020}) {
                k.poke(p, place, -1);
            }
        }
        return k;
    }

    private static void peekOfNoPartition() {
        PartitionKernel k = fullMemories();
        for (int p : NO_PARTITIONS) {
            CHECK.same("peek(" + p + ", 0)", k.peek(p, 0), 0);
            CHECK.same("peek(" + p + ", 1020)", k.peek(p, 1020), 0);
        }
    }

    private static void peekAtNoPlace() {
        PartitionKernel k = fullMemories();
        for (int place : new int[] {-4, -1, 1, 2, 3, 5, 6, 7, 1021, 1022, 1023, 1024, 1028, LEAST, GREATEST, GREATEST - 3}) {
            CHECK.same("peek(0, " + place + ")", k.peek(0, place), 0);
            CHECK.same("peek(3, " + place + ")", k.peek(3, place), 0);
        }
    }

    /** Register x is 1000 + x, in process 0 of partition 0. */
    private static PartitionKernel filledRegisters() {
        int[] program = new int[32];
        for (int x = 0; x < 32; x++) {
            program[x] = Asm.li(x, 1000 + x);
        }
        PartitionKernel k = one(program);
        k.process(0, 0, 1, 0, 0);
        CHECK.same("ahead of begin()", k.register(0, 0, 5), 0);
        k.begin();
        CHECK.same("behind begin()", k.register(0, 0, 5), 0);
        k.run(32);
        return k;
    }

    private static void registersOfAProcess() {
        PartitionKernel k = filledRegisters();
        CHECK.same("x0", k.register(0, 0, 0), 0);
        for (int x = 1; x < 32; x++) {
            CHECK.same("x" + x, k.register(0, 0, x), 1000 + x);
            CHECK.same("x" + x + " of the other", k.register(0, 1, x), 0);
        }
    }

    private static void noSuchRegister() {
        PartitionKernel k = filledRegisters();
        for (int x : new int[] {-1, 32, 33, LEAST, GREATEST}) {
            CHECK.same("x" + x, k.register(0, 0, x), 0);
        }
    }

    private static void registerOfNoProcess() {
        PartitionKernel k = filledRegisters();
        for (int x = 1; x < 32; x += 10) {
            for (int none : NO_PARTITIONS) {
                CHECK.same("partition " + none, k.register(none, 0, x), 0);
            }
            for (int none : NO_PROCESSES) {
                CHECK.same("process " + none, k.register(0, none, x), 0);
            }
            CHECK.same("process 2 of two", k.register(0, 2, x), 0);
            CHECK.same("process 0 of none", k.register(1, 0, x), 0);
        }
    }

    private static void states(String when, PartitionKernel k, int... due) {
        for (int what = 0; what < due.length; what++) {
            CHECK.same(when + ": state(0, 0, " + what + ")", k.state(0, 0, what), due[what]);
        }
    }

    private static PartitionKernel throughEachState() {
        PartitionKernel k = new PartitionKernel();
        k.process(0, 64, 9, 50, 40);
        k.window(0, 100);
        Asm.place(k, 0, 64, Asm.join(Asm.call(2, 3, 0), Asm.call(6, 2, 0)));
        k.begin();
        return k;
    }

    private static void stateInEachState() {
        PartitionKernel k = throughEachState();
        states("READY", k, 1, 64, 9, 40, -1, -1, 0, 0);
        k.run(4);
        states("WAITS for a time", k, 2, 80, 9, 40, 6, -1, 4, 0);
        k.run(6);
        states("WAITS for a semaphore", k, 3, 96, 9, 40, -1, 2, 8, 0);
        PartitionKernel rests = begun(Asm.call(0, 0, 0));
        rests.run(4);
        states("DORMANT", rests, 0, 16, 5, -1, -1, -1, 4, 0);
    }

    private static void dueOrNone() {
        PartitionKernel k = throughEachState();
        CHECK.same("with a DEADLINE", k.state(0, 0, 3), 40);
        k.run(41);
        CHECK.same("not too late yet", k.state(0, 0, 3), 40);
        k.run(1);
        CHECK.same("none behind error 2", k.state(0, 0, 3), -1);
        CHECK.same("without a DEADLINE", begun(Asm.idle()).state(0, 0, 3), -1);
    }

    private static void waitTimeOrNone() {
        PartitionKernel k = throughEachState();
        int[] due = {-1, -1, -1, 6, 6, 6, -1, -1, -1, -1};
        for (int t = 0; t < due.length; t++) {
            k.run(1);
            CHECK.same("behind tick " + t, k.state(0, 0, 4), due[t]);
        }
        PartitionKernel waits = begun(Asm.call(6, 0, 0));
        waits.run(4);
        CHECK.same("WAITS for a semaphore", waits.state(0, 0, 4), -1);
        PartitionKernel given = givenASemaphore();
        CHECK.same("READY by a semaphore", given.state(0, 0, 0), 1);
        CHECK.same("for no time", given.state(0, 0, 4), -1);
    }

    /** Process 0 waits for semaphore 1, and process 1 gives it. */
    private static PartitionKernel givenASemaphore() {
        PartitionKernel k = one(Asm.call(6, 1, 0));
        k.process(0, 64, 4, 0, 0);
        Asm.place(k, 0, 64, Asm.call(7, 1, 0));
        k.begin();
        k.run(8);
        return k;
    }

    private static void semaphoreOrNone() {
        PartitionKernel k = throughEachState();
        int[] due = {-1, -1, -1, -1, -1, -1, -1, -1, -1, 2, 2};
        for (int t = 0; t < due.length; t++) {
            k.run(1);
            CHECK.same("behind tick " + t, k.state(0, 0, 5), due[t]);
        }
        PartitionKernel least = begun(Asm.call(6, 0, 0));
        least.run(4);
        CHECK.same("semaphore 0 is not NONE", least.state(0, 0, 5), 0);
        CHECK.same("READY by a semaphore", givenASemaphore().state(0, 0, 5), -1);
        PartitionKernel periodic = new PartitionKernel();
        periodic.process(0, 0, 9, 50, 40);
        periodic.window(0, 100);
        Asm.place(periodic, 0, 0, Asm.call(1, 0, 0));
        periodic.begin();
        periodic.run(4);
        CHECK.same("WAITS for its RELEASE", periodic.state(0, 0, 0), 2);
        CHECK.same("for no semaphore", periodic.state(0, 0, 5), -1);
    }

    private static void stateOfNoProcess() {
        PartitionKernel k = begun(Asm.idle());
        for (int what = 0; what < 8; what++) {
            for (int none : NO_PARTITIONS) {
                CHECK.same("partition " + none, k.state(none, 0, what), -1);
            }
            for (int none : NO_PROCESSES) {
                CHECK.same("process " + none, k.state(0, none, what), -1);
            }
            CHECK.same("process 1 of one", k.state(0, 1, what), -1);
            CHECK.same("process 0 of none", k.state(1, 0, what), -1);
        }
    }

    private static void stateOfAnotherWhat() {
        for (PartitionKernel k : new PartitionKernel[] {one(Asm.idle()), begun(Asm.idle())}) {
            for (int what : new int[] {-1, 8, 9, LEAST, GREATEST}) {
                CHECK.same("what " + what, k.state(0, 0, what), -1);
            }
        }
    }

    private static void stateAheadOfBegin() {
        PartitionKernel k = new PartitionKernel();
        k.process(0, 64, 9, 50, 40);
        states("DORMANT, its PRIORITY, 0 else, and none", k, 0, 0, 9, -1, -1, -1, 0, 0);
        k.window(0, 1);
        states("with a window", k, 0, 0, 9, -1, -1, -1, 0, 0);
    }

    private static void stoppedOrNot() {
        PartitionKernel k = one(Asm.li(1, 1), 0);
        k.action(0, 0, 4);
        CHECK.same("ahead of begin()", k.partition(0, 0), 0);
        k.begin();
        k.run(1);
        CHECK.same("not yet", k.partition(0, 0), 0);
        k.run(1);
        CHECK.same("STOPPED", k.partition(0, 0), 1);
        for (int p = 1; p < 4; p++) {
            CHECK.same("not " + p, k.partition(p, 0), 0);
        }
    }

    private static void howManyProcesses() {
        PartitionKernel k = new PartitionKernel();
        for (int n = 0; n < 8; n++) {
            CHECK.same("so far", k.partition(3, 1), n);
            k.process(3, 0, 0, 0, 0);
        }
        CHECK.same("all 8", k.partition(3, 1), 8);
        CHECK.same("no other's", k.partition(2, 1), 0);
    }

    private static void firstByWhatIsReady() {
        PartitionKernel k = new PartitionKernel();
        k.process(0, 0, 2, 0, 0);
        k.process(0, 32, 6, 0, 0);
        k.process(0, 64, 6, 0, 0);
        k.window(0, 50);
        Asm.place(k, 0, 0, Asm.idle());
        Asm.place(k, 0, 32, Asm.call(2, 5, 0));
        Asm.place(k, 0, 64, Asm.call(0, 0, 0));
        k.begin();
        CHECK.same("the first of the greatest", k.partition(0, 2), 1);
        k.run(4);
        CHECK.same("the next of the greatest", k.partition(0, 2), 2);
        k.run(4);
        CHECK.same("the sleeper's time has come, but it is not READY yet", k.partition(0, 2), 0);
        k.run(1);
        CHECK.same("the sleeper did the tick", k.state(0, 1, 6), 5);
        CHECK.same("and is first", k.partition(0, 2), 1);
    }

    private static void nobodyIsFirst() {
        PartitionKernel k = one(Asm.call(0, 0, 0));
        k.process(2, 0, 0, 0, 0);
        CHECK.same("ahead of begin()", k.partition(0, 2), -1);
        CHECK.same("without processes", k.partition(1, 2), -1);
        k.begin();
        CHECK.same("READY in a partition without a window", k.partition(2, 2), 0);
        k.run(4);
        CHECK.same("DORMANT", k.partition(0, 2), -1);
        PartitionKernel sleeps = begun(Asm.call(2, 2, 0));
        sleeps.run(4);
        CHECK.same("WAITS for a time", sleeps.partition(0, 2), -1);
        PartitionKernel waits = begun(Asm.call(6, 0, 0));
        waits.run(4);
        CHECK.same("WAITS for a semaphore", waits.partition(0, 2), -1);
    }

    private static void howOftenItBeganAgain() {
        PartitionKernel k = one(Asm.li(1, 1), 0);
        k.action(0, 0, 3);
        CHECK.same("ahead of begin()", k.partition(0, 3), 0);
        k.begin();
        for (int n = 0; n < 5; n++) {
            CHECK.same("so far", k.partition(0, 3), n);
            k.run(2);
        }
        CHECK.same("no other one", k.partition(1, 3), 0);
        k.action(0, 0, 2);
        k.run(4);
        CHECK.same("a process that BEGINS again is none", k.partition(0, 3), 5);
    }

    private static void countsOfSemaphores() {
        PartitionKernel k = new PartitionKernel();
        k.process(2, 0, 5, 0, 0);
        k.window(2, 4);
        Asm.place(k, 2, 0, Asm.join(Asm.words(Asm.li(17, 7)), gives(0), gives(1), gives(1), gives(2), gives(2),
            gives(2), gives(3), gives(3), gives(3), gives(3)));
        k.begin();
        k.run(21);
        for (int s = 0; s < 4; s++) {
            CHECK.same("semaphore " + s, k.partition(2, 4 + s), s + 1);
            CHECK.same("another partition's", k.partition(1, 4 + s), 0);
        }
    }

    private static int[] gives(int semaphore) {
        return Asm.words(Asm.li(10, semaphore), Asm.CALL);
    }

    private static void partitionOfAnotherWhat() {
        for (Stage stage : Stage.all()) {
            PartitionKernel k = stage.kernel();
            for (int what : new int[] {-1, 8, 9, LEAST, GREATEST}) {
                CHECK.same("what " + what + " when " + stage.name, k.partition(2, what), -1);
            }
        }
    }

    private static void noSuchPartition() {
        for (Stage stage : Stage.all()) {
            PartitionKernel k = stage.kernel();
            for (int p : NO_PARTITIONS) {
                for (int what = -1; what <= 8; what++) {
                    CHECK.same("partition(" + p + ", " + what + ") when " + stage.name, k.partition(p, what), -1);
                }
            }
        }
    }

    /** Sends 11, 22, 33 to channel 0, in the fourth tick of each five. */
    private static PartitionKernel sender(boolean queue, int limit) {
        PartitionKernel k = one(Asm.li(17, 8), Asm.addi(11, 11, 11), Asm.li(10, 0), Asm.CALL, Asm.jal(0, -16));
        k.channel(queue, 0, 1, limit);
        k.begin();
        return k;
    }

    private static void wordsOfAQueue() {
        PartitionKernel k = sender(true, 3);
        for (int n = 0; n < 6; n++) {
            CHECK.same("behind " + n, k.traffic(0, 0), Math.min(n, 3));
            k.run(5);
        }
    }

    private static void wordsOfASample() {
        PartitionKernel k = sender(false, 3);
        for (int n = 0; n < 6; n++) {
            CHECK.same("behind " + n, k.traffic(0, 0), Math.min(n, 1));
            k.run(5);
        }
        k.run(100);
        CHECK.same("also when it is not fresh", k.traffic(0, 0), 1);
    }

    private static void timeOfASample() {
        PartitionKernel k = sender(false, 0);
        CHECK.same("none was sent", k.traffic(0, 1), -1);
        k.run(3);
        CHECK.same("not yet", k.traffic(0, 1), -1);
        k.run(1);
        CHECK.same("the first", k.traffic(0, 1), 3);
        k.run(4);
        CHECK.same("still the first", k.traffic(0, 1), 3);
        k.run(1);
        CHECK.same("the second", k.traffic(0, 1), 8);
        PartitionKernel queue = sender(true, 3);
        CHECK.same("an empty QUEUE", queue.traffic(0, 1), -1);
        queue.run(10);
        CHECK.same("a QUEUE with words", queue.traffic(0, 1), -1);
    }

    private static void trafficOfAnotherWhat() {
        PartitionKernel queue = sender(true, 3);
        PartitionKernel sample = sender(false, 3);
        queue.run(10);
        sample.run(10);
        for (int what : new int[] {-1, 2, 3, LEAST, GREATEST}) {
            CHECK.same("a QUEUE, what " + what, queue.traffic(0, what), -1);
            CHECK.same("a SAMPLE, what " + what, sample.traffic(0, what), -1);
        }
    }

    private static void trafficOfNoChannel() {
        PartitionKernel k = sender(true, 3);
        for (int what = 0; what < 2; what++) {
            CHECK.same("channel 1 of one", k.traffic(1, what), -1);
            for (int none : NO_CHANNELS) {
                CHECK.same("channel " + none, k.traffic(none, what), -1);
                CHECK.same("channel " + none + " of 8", Stage.FULL.kernel().traffic(none, what), -1);
            }
        }
    }

    private static void wordsInTheirOrder() {
        PartitionKernel queue = sender(true, 3);
        queue.run(15);
        CHECK.same("first", queue.word(0, 0), 11);
        CHECK.same("second", queue.word(0, 1), 22);
        CHECK.same("third", queue.word(0, 2), 33);
        PartitionKernel sample = sender(false, 3);
        sample.run(15);
        CHECK.same("a SAMPLE's newest", sample.word(0, 0), 33);
    }

    private static void noSuchWord() {
        PartitionKernel queue = sender(true, 3);
        PartitionKernel sample = sender(false, 3);
        CHECK.same("an empty QUEUE", queue.word(0, 0), 0);
        CHECK.same("a SAMPLE that was not sent", sample.word(0, 0), 0);
        queue.run(10);
        sample.run(10);
        CHECK.same("the QUEUE's third of two", queue.word(0, 2), 0);
        CHECK.same("the SAMPLE's second", sample.word(0, 1), 0);
        for (int none : new int[] {-1, 3, 7, 8, 9, LEAST, GREATEST}) {
            CHECK.same("the QUEUE's word " + none, queue.word(0, none), 0);
            CHECK.same("the SAMPLE's word " + none, sample.word(0, none), 0);
        }
        CHECK.same("channel 1 of one", queue.word(1, 0), 0);
        for (int none : NO_CHANNELS) {
            CHECK.same("channel " + none, queue.word(none, 0), 0);
        }
    }

    /** 41 and 42 are sent, then 41 is taken, then 42. */
    private static void wordsThatWent() {
        for (int limit = 2; limit <= 8; limit++) {
            PartitionKernel k = one(Asm.join(Asm.call(8, 0, 41), Asm.call(8, 0, 42), Asm.call(9, 0, 0), Asm.call(9, 0, 0)));
            k.channel(true, 0, 0, limit);
            k.begin();
            k.run(12);
            CHECK.same("the first now", k.word(0, 0), 42);
            words(k, 1);
            k.run(4);
            words(k, 0);
        }
    }

    private static void words(PartitionKernel k, int count) {
        CHECK.same("words", k.traffic(0, 0), count);
        CHECK.same("word -1", k.word(0, -1), 0);
        for (int n = count; n <= 8; n++) {
            CHECK.same("word " + n, k.word(0, n), 0);
        }
    }

    private static void errors(PartitionKernel k, int latest, int... due) {
        for (int what = 0; what < 4; what++) {
            CHECK.same("error(" + latest + ", " + what + ")", k.error(latest, what), due[what]);
        }
    }

    /** Errors of kinds 1, 0, 3, 2, 1, in this order. */
    private static PartitionKernel fiveErrors() {
        PartitionKernel k = new PartitionKernel();
        k.process(0, 0, 1, 0, 0);
        k.process(0, 0, 2, 0, 3);
        k.process(3, 0, 2, 0, 0);
        k.window(0, 2);
        k.window(3, 3);
        Asm.place(k, 0, 0, Asm.jal(0, 2));
        Asm.place(k, 3, 0, 0, Asm.li(17, 10), Asm.CALL);
        CHECK.same("none ahead of begin()", k.error(0, 0), -1);
        k.begin();
        k.run(6);
        return k;
    }

    private static void errorsOfEachKind() {
        PartitionKernel k = fiveErrors();
        CHECK.same("errors in all", k.about(1), 5);
        errors(k, 4, 1, 0, 1, 1);
        errors(k, 3, 2, 3, 0, 0);
        errors(k, 2, 4, 3, 0, 3);
        errors(k, 1, 5, 0, 1, 2);
        errors(k, 0, 5, 0, 1, 1);
    }

    private static void latestErrors() {
        PartitionKernel k = begun();
        k.run(63);
        CHECK.same("the oldest of 63", k.error(62, 0), 0);
        CHECK.same("no 64th yet", k.error(63, 0), -1);
        k.run(1);
        CHECK.same("the oldest of 64", k.error(63, 0), 0);
        CHECK.same("no 65th yet", k.error(64, 0), -1);
        k.run(1);
        CHECK.same("the latest of 65", k.error(0, 0), 64);
        CHECK.same("the oldest that is kept", k.error(63, 0), 1);
        CHECK.same("the 65th is not kept", k.error(64, 0), -1);
        k.run(200);
        CHECK.same("errors in all", k.about(1), 265);
        for (int n = 0; n < 64; n++) {
            CHECK.same("time of " + n, k.error(n, 0), 264 - n);
            CHECK.same("kind of " + n, k.error(n, 3), 264 - n < 256 ? 0 : 1);
        }
    }

    private static void noSuchError() {
        PartitionKernel k = fiveErrors();
        PartitionKernel none = begun(Asm.idle());
        none.run(100);
        PartitionKernel many = begun();
        many.run(100);
        for (int what = 0; what < 4; what++) {
            CHECK.same("the latest of none", none.error(0, what), -1);
            for (int other : new int[] {-1, 5, 63, 64, LEAST, GREATEST}) {
                CHECK.same("error " + other + " of 5", k.error(other, what), -1);
            }
            for (int other : new int[] {-1, 64, 99, 100, LEAST, GREATEST}) {
                CHECK.same("error " + other + " of 100", many.error(other, what), -1);
            }
        }
    }

    private static void errorOfAnotherWhat() {
        PartitionKernel k = fiveErrors();
        for (int what : new int[] {-1, 4, 5, LEAST, GREATEST}) {
            for (int latest = 0; latest < 5; latest++) {
                CHECK.same("error(" + latest + ", " + what + ")", k.error(latest, what), -1);
            }
        }
    }

    private static void aboutAll() {
        PartitionKernel k = one(Asm.li(1, 1), 0, Asm.idle());
        k.window(3, 5);
        k.begin();
        k.run(0);
        int[][] due = {{0, 0, 0}, {1, 0, 1}, {2, 1, 2}};
        for (int n = 0; n < 3; n++) {
            for (int what = 0; what < 3; what++) {
                CHECK.same("about(" + what + ") behind " + n, k.about(what), due[n][what]);
            }
            k.run(1);
        }
        k.run(12);
        CHECK.same("TIME goes on in a window with nobody", k.about(0), 15);
        CHECK.same("errors", k.about(1), 1);
        CHECK.same("instructions", k.about(2), 10);
    }

    private static void aboutTheWindow() {
        PartitionKernel k = one(Asm.idle());
        k.window(3, 5);
        k.begin();
        for (int t = 0; t < 60; t++) {
            CHECK.same("at " + t, k.about(3), t % 15 < 10 ? 0 : 3);
            k.run(1);
        }
    }

    private static void aboutAheadOfBegin() {
        for (Stage stage : Stage.aheadOfBegin()) {
            CHECK.same("when " + stage.name, stage.kernel().about(3), -1);
        }
        for (Stage stage : Stage.behindBegin()) {
            CHECK.same("when " + stage.name, stage.kernel().about(3) == -1 ? 1 : 0, 0);
        }
    }

    private static void aboutAnotherWhat() {
        for (Stage stage : Stage.all()) {
            for (int what : new int[] {-1, 4, 5, LEAST, GREATEST}) {
                CHECK.same("what " + what + " when " + stage.name, stage.kernel().about(what), -1);
            }
        }
    }

    private static void looksOnlyLook() {
        for (Stage stage : Stage.all()) {
            CHECK.same("what changed when " + stage.name, stage.change(LookTest::lookFar), "none");
        }
    }

    private static void lookFar(PartitionKernel k) {
        for (int far : new int[] {LEAST, -1, 2, GREATEST}) {
            k.peek(far, far);
            k.register(far, far, far);
            k.state(far, 0, far);
            k.partition(far, far);
            k.traffic(far, 0);
            k.word(far, 0);
            k.error(far, far);
            k.about(far);
        }
    }

    private LookTest() {
    }
}
