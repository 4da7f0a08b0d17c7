/**
 * A kernel of partitions: each has its windows of time, its memory, its processes, and nothing of
 * the others' but what channels bring. The document DOC.md says what every call promises.
 */
public final class PartitionKernel {
    public static final int NONE = -1;

    private static final int PARTITION_COUNT = 4;
    private static final int MAX_WINDOWS = 8;
    private static final int MAX_WINDOW_TICKS = 100;
    private static final int MAX_PROCESSES = 8;
    private static final int MAX_CHANNELS = 8;
    private static final int MAX_QUEUE = 8;
    private static final int MAX_PRIORITY = 15;
    private static final int MAX_SPAN = 100000;
    private static final int MAX_RUN = 500;
    private static final int MEMORY_BYTES = 1024;
    private static final int REGISTER_COUNT = 32;
    private static final int SEMAPHORE_COUNT = 4;
    private static final int MAX_SEMAPHORE = 1000;
    private static final int KEPT_ERRORS = 64;

    private static final int DORMANT = 0;
    private static final int READY = 1;
    private static final int WAITS_TIME = 2;
    private static final int WAITS_SEMAPHORE = 3;

    private static final int ERROR_INSTRUCTION = 0;
    private static final int ERROR_MEMORY = 1;
    private static final int ERROR_DUE = 2;
    private static final int ERROR_RAISED = 3;
    private static final int ERROR_KINDS = 4;

    private static final int ACTION_DORMANT = 1;
    private static final int ACTION_BEGIN = 2;
    private static final int ACTION_RESTART = 3;
    private static final int ACTION_STOP = 4;

    /** What a step answers beside an error's kind; below 0, so that no kind is the same. */
    private static final int FINE = -1;
    private static final int CALLED = -2;

    private static final int SIGN = 1 << 31;

    private static final int ANSWER = 10;
    private static final int SECOND = 11;
    private static final int CALL_NUMBER = 17;

    private final Partition[] partitions = new Partition[PARTITION_COUNT];
    private final Channel[] channels = new Channel[MAX_CHANNELS];
    private final Frame frame = new Frame();
    private final ErrorLog log = new ErrorLog();
    private int channelCount;
    private int time;
    private int instructions;
    private boolean begun;

    public PartitionKernel() {
        for (int k = 0; k < PARTITION_COUNT; k++) {
            partitions[k] = new Partition(k);
        }
        for (int k = 0; k < MAX_CHANNELS; k++) {
            channels[k] = new Channel();
        }
    }

    public void window(int partition, int ticks)
            throws IndexOutOfBoundsException, IllegalArgumentException, IllegalStateException {
        if (!isPartition(partition)) {
            throw new IndexOutOfBoundsException("no such partition");
        }
        if (ticks < 1 || ticks > MAX_WINDOW_TICKS) {
            throw new IllegalArgumentException("ticks are not 1 .. 100");
        }
        if (begun || !frame.add(partition, ticks)) {
            throw new IllegalStateException("it has begun, or there are 8 windows");
        }
    }

    public int process(int partition, int entry, int priority, int period, int deadline)
            throws IndexOutOfBoundsException, IllegalArgumentException, IllegalStateException {
        Partition home = partitionAt(partition);
        if (home == null) {
            throw new IndexOutOfBoundsException("no such partition");
        }
        if (!isPriority(priority) || !isSpan(period) || !isSpan(deadline)) {
            throw new IllegalArgumentException("no such priority, period or deadline");
        }
        int number = begun ? NONE : home.add(entry, priority, period, deadline);
        if (number == NONE) {
            throw new IllegalStateException("it has begun, or there are 8 processes");
        }
        return number;
    }

    public int channel(boolean queue, int from, int to, int limit)
            throws IndexOutOfBoundsException, IllegalArgumentException, IllegalStateException {
        if (!isPartition(from) || !isPartition(to)) {
            throw new IndexOutOfBoundsException("no such partitions");
        }
        if (queue ? limit < 1 || limit > MAX_QUEUE : !isSpan(limit)) {
            throw new IllegalArgumentException("no such limit");
        }
        if (begun || channelCount >= MAX_CHANNELS) {
            throw new IllegalStateException("it has begun, or there are 8 channels");
        }
        channels[channelCount].open(queue, from, to, limit);
        channelCount++;
        return channelCount - 1;
    }

    public void action(int partition, int error, int action)
            throws IndexOutOfBoundsException, IllegalArgumentException {
        Partition home = partitionAt(partition);
        if (home == null || error < 0 || error >= ERROR_KINDS) {
            throw new IndexOutOfBoundsException("no such partition or error");
        }
        if (action < 0 || action > ACTION_STOP) {
            throw new IllegalArgumentException("no such action");
        }
        home.actions[error] = action;
    }

    public void poke(int partition, int place, int word) throws IndexOutOfBoundsException {
        Partition home = partitionAt(partition);
        if (home == null || !Memory.holds(place, 4)) {
            throw new IndexOutOfBoundsException("no such partition or place");
        }
        home.memory.writeWord(place, word);
    }

    public void begin() throws IllegalStateException {
        if (begun || frame.count == 0) {
            throw new IllegalStateException("it has begun, or there is no window");
        }
        begun = true;
        for (int k = 0; k < PARTITION_COUNT; k++) {
            partitions[k].startAll(time);
        }
    }

    public int run(int n) throws IllegalArgumentException, IllegalStateException {
        if (!begun) {
            throw new IllegalStateException("it has not begun");
        }
        if (n < 0 || n > MAX_RUN) {
            throw new IllegalArgumentException("n is not 0 .. 500");
        }
        int before = instructions;
        for (int k = 0; k < n; k++) {
            Partition here = partitionAt(frame.owner());
            if (here != null && !here.stopped) {
                tick(here);
            }
            time++;
            frame.advance();
        }
        return instructions - before;
    }

    public int peek(int partition, int place) {
        Partition home = partitionAt(partition);
        return home == null ? 0 : home.memory.readWord(place);
    }

    public int register(int partition, int process, int x) {
        Proc p = processAt(partition, process);
        return p == null ? 0 : p.get(x);
    }

    public int state(int partition, int process, int what) {
        Proc p = processAt(partition, process);
        return p == null ? NONE : p.tell(what);
    }

    public int partition(int partition, int what) {
        Partition home = partitionAt(partition);
        return home == null ? NONE : home.tell(what);
    }

    public int traffic(int channel, int what) {
        Channel c = channelAt(channel);
        return c == null ? NONE : c.tell(what);
    }

    public int word(int channel, int k) {
        Channel c = channelAt(channel);
        return c == null ? 0 : c.wordAt(k);
    }

    public int error(int k, int what) {
        return log.tell(k, what);
    }

    public int about(int what) {
        switch (what) {
            case 0:
                return time;
            case 1:
                return log.total;
            case 2:
                return instructions;
            case 3:
                return begun ? frame.owner() : NONE;
            default:
                return NONE;
        }
    }

    private static boolean isPartition(int number) {
        return number >= 0 && number < PARTITION_COUNT;
    }

    private static boolean isPriority(int value) {
        return value >= 0 && value <= MAX_PRIORITY;
    }

    private static boolean isSpan(int ticks) {
        return ticks >= 0 && ticks <= MAX_SPAN;
    }

    private Partition partitionAt(int number) {
        return isPartition(number) ? partitions[number] : null;
    }

    private Proc processAt(int partition, int number) {
        Partition home = partitionAt(partition);
        return home == null ? null : home.find(number);
    }

    private Channel channelAt(int number) {
        return number >= 0 && number < channelCount ? channels[number] : null;
    }

    private void tick(Partition here) {
        here.wake(time);
        if (dueErrorsEndTick(here)) {
            return;
        }
        Proc p = here.first(READY, NONE);
        if (p == null) {
            return;
        }
        p.done++;
        instructions++;
        int outcome = Machine.step(p, here.memory);
        if (outcome == CALLED) {
            outcome = serve(here, p);
        }
        if (outcome != FINE) {
            fails(here, p, outcome);
        }
    }

    private boolean dueErrorsEndTick(Partition here) {
        for (int k = 0; k < here.count; k++) {
            Proc p = here.processes[k];
            if (p.isLate(time)) {
                p.due = NONE;
                if (fails(here, p, ERROR_DUE)) {
                    return true;
                }
            }
        }
        return false;
    }

    /** Notes an error and does its action; answers whether the tick is over by it. */
    private boolean fails(Partition here, Proc p, int kind) {
        log.note(time, here.number, p.number, kind);
        switch (here.actionFor(kind)) {
            case ACTION_DORMANT:
                here.rest(p);
                return false;
            case ACTION_BEGIN:
                here.start(p, time);
                return false;
            case ACTION_RESTART:
                here.startAll(time);
                here.restarts++;
                return true;
            case ACTION_STOP:
                here.stopped = true;
                return true;
            default:
                if (kind != ERROR_DUE) {
                    p.pc += 4;
                }
                return false;
        }
    }

    private int serve(Partition here, Proc p) {
        int call = p.get(CALL_NUMBER);
        if (call == 10) {
            return ERROR_RAISED;
        }
        if (call < 0 || call > 10) {
            return ERROR_INSTRUCTION;
        }
        p.pc += 4;
        if (call == 0) {
            here.rest(p);
        } else {
            p.set(ANSWER, answer(call, here, p));
        }
        return FINE;
    }

    private int answer(int call, Partition here, Proc p) {
        int a = p.get(ANSWER);
        int b = p.get(SECOND);
        switch (call) {
            case 1:
                return here.awaitRelease(p);
            case 2:
                return here.awaitSpan(p, a, time);
            case 3:
                return here.startDormant(a, time);
            case 4:
                return here.setPriority(a, b);
            case 5:
                return time;
            case 6:
                return here.takeSemaphore(p, a);
            case 7:
                return here.giveSemaphore(a);
            case 8:
                return send(here, a, b);
            default:
                return receive(here, a, p);
        }
    }

    private int send(Partition here, int number, int value) {
        Channel c = channelAt(number);
        if (c == null || c.from != here.number) {
            return 1;
        }
        return c.put(value, time);
    }

    private int receive(Partition here, int number, Proc p) {
        Channel c = channelAt(number);
        if (c == null || c.to != here.number) {
            return 1;
        }
        if (c.count == 0) {
            return 2;
        }
        p.set(SECOND, c.wordAt(0));
        return c.taken(time);
    }

    /** The windows, again and again; the place in them is kept so that no tick has to divide. */
    private static final class Frame {
        final int[] owners = new int[MAX_WINDOWS];
        final int[] lengths = new int[MAX_WINDOWS];
        int count;
        int current;
        int spent;

        boolean add(int partition, int ticks) {
            if (count >= MAX_WINDOWS) {
                return false;
            }
            owners[count] = partition;
            lengths[count] = ticks;
            count++;
            return true;
        }

        int owner() {
            return current < count ? owners[current] : NONE;
        }

        void advance() {
            if (current >= count) {
                return;
            }
            spent++;
            if (spent >= lengths[current]) {
                spent = 0;
                current = current + 1 < count ? current + 1 : 0;
            }
        }
    }

    /** The latest errors, in rows that are used again in a ring. */
    private static final class ErrorLog {
        final int[] times = new int[KEPT_ERRORS];
        final int[] partitions = new int[KEPT_ERRORS];
        final int[] processes = new int[KEPT_ERRORS];
        final int[] kinds = new int[KEPT_ERRORS];
        int total;
        int kept;
        int next;

        void note(int time, int partition, int process, int kind) {
            times[next] = time;
            partitions[next] = partition;
            processes[next] = process;
            kinds[next] = kind;
            next = next + 1 < KEPT_ERRORS ? next + 1 : 0;
            kept = Math.min(kept + 1, KEPT_ERRORS);
            total++;
        }

        int tell(int k, int what) {
            if (k < 0 || k >= kept) {
                return NONE;
            }
            int place = next - 1 - k;
            if (place < 0) {
                place += KEPT_ERRORS;
            }
            switch (what) {
                case 0:
                    return times[place];
                case 1:
                    return partitions[place];
                case 2:
                    return processes[place];
                case 3:
                    return kinds[place];
                default:
                    return NONE;
            }
        }
    }

    /** A queue, or a sample, which is held as a queue's one word and the time it was sent. */
    private static final class Channel {
        final int[] words = new int[MAX_QUEUE];
        boolean queue;
        int from;
        int to;
        int limit;
        int head;
        int count;
        int sentAt = NONE;

        void open(boolean isQueue, int sender, int receiver, int bound) {
            queue = isQueue;
            from = sender;
            to = receiver;
            limit = bound;
        }

        int put(int value, int now) {
            if (!queue) {
                words[0] = value;
                count = 1;
                sentAt = now;
                return 0;
            }
            if (count >= limit) {
                return 2;
            }
            words[placeOf(count)] = value;
            count++;
            return 0;
        }

        /** The answer to who has read the first word: a queue loses it, a sample keeps it. */
        int taken(int now) {
            if (!queue) {
                return now - sentAt <= limit ? 0 : 3;
            }
            head = placeOf(1);
            count--;
            return 0;
        }

        int wordAt(int k) {
            return k >= 0 && k < count ? words[placeOf(k)] : 0;
        }

        int tell(int what) {
            switch (what) {
                case 0:
                    return count;
                case 1:
                    return sentAt;
                default:
                    return NONE;
            }
        }

        private int placeOf(int k) {
            return (head + k) & (MAX_QUEUE - 1);
        }
    }

    /** 1024 bytes, held as words because nearly every use is a whole word. */
    private static final class Memory {
        final int[] words = new int[MEMORY_BYTES / 4];

        static boolean holds(int place, int size) {
            return place >= 0 && place < MEMORY_BYTES && (place & (size - 1)) == 0;
        }

        int readWord(int place) {
            return holds(place, 4) ? words[place >> 2] : 0;
        }

        void writeWord(int place, int word) {
            if (holds(place, 4)) {
                words[place >> 2] = word;
            }
        }

        /** What stands at a place comes lowest; the bytes behind it in its word come above it. */
        int readFrom(int place) {
            return readWord(place & ~3) >>> shiftOf(place);
        }

        void write(int place, int size, int value) {
            int lowest = size == 4 ? -1 : (1 << (size * 8)) - 1;
            int mask = lowest << shiftOf(place);
            int rest = readWord(place & ~3) & ~mask;
            writeWord(place & ~3, rest | (value << shiftOf(place) & mask));
        }

        private static int shiftOf(int place) {
            return (place & 3) * 8;
        }
    }

    private static final class Proc {
        final int number;
        final int[] registers = new int[REGISTER_COUNT];
        int entry;
        int priority;
        int period;
        int deadline;
        int pc;
        int state = DORMANT;
        int due = NONE;
        int release;
        int waitTime = NONE;
        int semaphore = NONE;
        int order;
        int done;

        Proc(int itsNumber) {
            number = itsNumber;
        }

        int get(int x) {
            return x >= 0 && x < REGISTER_COUNT ? registers[x] : 0;
        }

        void set(int x, int value) {
            if (x > 0 && x < REGISTER_COUNT) {
                registers[x] = value;
            }
        }

        void reset() {
            for (int x = 0; x < REGISTER_COUNT; x++) {
                registers[x] = 0;
            }
            pc = entry;
        }

        void releaseAt(int when) {
            release = when;
            due = deadline > 0 ? when + deadline : NONE;
        }

        boolean isLate(int now) {
            return due != NONE && due < now;
        }

        /** The greater priority leads; among equals who came first. */
        boolean leads(Proc other) {
            if (other == null) {
                return true;
            }
            return priority == other.priority ? order < other.order : priority > other.priority;
        }

        int tell(int what) {
            switch (what) {
                case 0:
                    return state;
                case 1:
                    return pc;
                case 2:
                    return priority;
                case 3:
                    return due;
                case 4:
                    return waitTime;
                case 5:
                    return semaphore;
                case 6:
                    return done;
                case 7:
                    return release;
                default:
                    return NONE;
            }
        }
    }

    private static final class Partition {
        final int number;
        final Memory memory = new Memory();
        final Proc[] processes = new Proc[MAX_PROCESSES];
        final int[] semaphores = new int[SEMAPHORE_COUNT];
        final int[] actions = new int[ERROR_KINDS];
        int count;
        int nextOrder;
        int restarts;
        boolean stopped;

        Partition(int itsNumber) {
            number = itsNumber;
            for (int k = 0; k < MAX_PROCESSES; k++) {
                processes[k] = new Proc(k);
            }
        }

        int add(int entry, int priority, int period, int deadline) {
            if (count >= MAX_PROCESSES) {
                return NONE;
            }
            Proc p = processes[count];
            p.entry = entry;
            p.priority = priority;
            p.period = period;
            p.deadline = deadline;
            count++;
            return p.number;
        }

        Proc find(int process) {
            return process >= 0 && process < count ? processes[process] : null;
        }

        int actionFor(int kind) {
            return kind >= 0 && kind < ERROR_KINDS ? actions[kind] : 0;
        }

        int tell(int what) {
            switch (what) {
                case 0:
                    return stopped ? 1 : 0;
                case 1:
                    return count;
                case 2:
                    return firstReadyNumber();
                case 3:
                    return restarts;
                default:
                    return isSemaphore(what - 4) ? semaphores[what - 4] : NONE;
            }
        }

        void start(Proc p, int now) {
            p.reset();
            p.releaseAt(now);
            enter(p, READY, NONE, NONE);
        }

        void startAll(int now) {
            for (int k = 0; k < count; k++) {
                start(processes[k], now);
            }
            for (int k = 0; k < SEMAPHORE_COUNT; k++) {
                semaphores[k] = 0;
            }
        }

        void rest(Proc p) {
            p.due = NONE;
            enter(p, DORMANT, NONE, NONE);
        }

        /** Sleepers whose time has come line up by that time, so the earliest is sought each time. */
        void wake(int now) {
            for (int k = 0; k < count; k++) {
                Proc p = firstSleeper(now);
                if (p == null) {
                    return;
                }
                enter(p, READY, NONE, NONE);
            }
        }

        Proc first(int state, int semaphore) {
            Proc best = null;
            for (int k = 0; k < count; k++) {
                Proc p = processes[k];
                if (p.state == state && p.semaphore == semaphore && p.leads(best)) {
                    best = p;
                }
            }
            return best;
        }

        int awaitRelease(Proc p) {
            if (p.period == 0) {
                return 1;
            }
            p.releaseAt(p.release + p.period);
            enter(p, WAITS_TIME, p.release, NONE);
            return 0;
        }

        int awaitSpan(Proc p, int span, int now) {
            if (!isSpan(span)) {
                return 1;
            }
            enter(p, WAITS_TIME, now + span, NONE);
            return 0;
        }

        int startDormant(int process, int now) {
            Proc p = find(process);
            if (p == null || p.state != DORMANT) {
                return 1;
            }
            start(p, now);
            return 0;
        }

        int setPriority(int process, int priority) {
            Proc p = find(process);
            if (p == null || !isPriority(priority)) {
                return 1;
            }
            p.priority = priority;
            return 0;
        }

        int takeSemaphore(Proc p, int semaphore) {
            if (!isSemaphore(semaphore)) {
                return 1;
            }
            if (semaphores[semaphore] > 0) {
                semaphores[semaphore]--;
            } else {
                enter(p, WAITS_SEMAPHORE, NONE, semaphore);
            }
            return 0;
        }

        int giveSemaphore(int semaphore) {
            if (!isSemaphore(semaphore)) {
                return 1;
            }
            Proc p = first(WAITS_SEMAPHORE, semaphore);
            if (p != null) {
                enter(p, READY, NONE, NONE);
                return 0;
            }
            if (semaphores[semaphore] >= MAX_SEMAPHORE) {
                return 1;
            }
            semaphores[semaphore]++;
            return 0;
        }

        private int firstReadyNumber() {
            Proc p = first(READY, NONE);
            return p == null ? NONE : p.number;
        }

        private static boolean isSemaphore(int semaphore) {
            return semaphore >= 0 && semaphore < SEMAPHORE_COUNT;
        }

        private Proc firstSleeper(int now) {
            Proc best = null;
            for (int k = 0; k < count; k++) {
                Proc p = processes[k];
                boolean wakes = p.state == WAITS_TIME && p.waitTime <= now;
                if (wakes && (best == null || p.waitTime < best.waitTime)) {
                    best = p;
                }
            }
            return best;
        }

        /** Every change of state takes a new place in line: who changes stands behind the others. */
        private void enter(Proc p, int state, int waitTime, int semaphore) {
            p.state = state;
            p.waitTime = waitTime;
            p.semaphore = semaphore;
            p.order = nextOrder;
            nextOrder++;
        }
    }

    /** The small machine. A step answers FINE, CALLED or an error's kind; an error has changed nothing. */
    private static final class Machine {
        static int step(Proc p, Memory memory) {
            if (!Memory.holds(p.pc, 4)) {
                return ERROR_MEMORY;
            }
            int w = memory.readWord(p.pc);
            switch (w & 127) {
                case 55:
                    return finish(p, w, upper(w), p.pc + 4);
                case 23:
                    return finish(p, w, p.pc + upper(w), p.pc + 4);
                case 111:
                    return finish(p, w, p.pc + 4, p.pc + jumpOffset(w));
                case 103:
                    return jumpToRegister(p, w);
                case 99:
                    return branch(p, w);
                case 3:
                    return load(p, w, memory);
                case 35:
                    return store(p, w, memory);
                case 19:
                    return reckonWithImmediate(p, w);
                case 51:
                    return reckonWithRegister(p, w);
                case 115:
                    return w == 115 ? CALLED : ERROR_INSTRUCTION;
                default:
                    return ERROR_INSTRUCTION;
            }
        }

        private static int finish(Proc p, int w, int value, int next) {
            p.pc = next;
            p.set(w >> 7 & 31, value);
            return FINE;
        }

        private static int jumpToRegister(Proc p, int w) {
            if (f3(w) != 0) {
                return ERROR_INSTRUCTION;
            }
            return finish(p, w, p.pc + 4, (left(p, w) + immediate(w)) & ~1);
        }

        private static int branch(Proc p, int w) {
            int r = left(p, w);
            int s = right(p, w);
            boolean taken;
            switch (f3(w)) {
                case 0:
                    taken = r == s;
                    break;
                case 1:
                    taken = r != s;
                    break;
                case 4:
                    taken = r < s;
                    break;
                case 5:
                    taken = r >= s;
                    break;
                case 6:
                    taken = isBelow(r, s);
                    break;
                case 7:
                    taken = !isBelow(r, s);
                    break;
                default:
                    return ERROR_INSTRUCTION;
            }
            p.pc += taken ? branchOffset(w) : 4;
            return FINE;
        }

        private static int load(Proc p, int w, Memory memory) {
            int f3 = f3(w);
            if (f3 == 3 || f3 > 5) {
                return ERROR_INSTRUCTION;
            }
            int place = left(p, w) + immediate(w);
            if (!Memory.holds(place, 1 << (f3 & 3))) {
                return ERROR_MEMORY;
            }
            return finish(p, w, widened(memory.readFrom(place), f3), p.pc + 4);
        }

        private static int widened(int raw, int f3) {
            switch (f3) {
                case 0:
                    return (byte) raw;
                case 1:
                    return (short) raw;
                case 4:
                    return raw & 255;
                case 5:
                    return raw & 65535;
                default:
                    return raw;
            }
        }

        private static int store(Proc p, int w, Memory memory) {
            int f3 = f3(w);
            if (f3 > 2) {
                return ERROR_INSTRUCTION;
            }
            int place = left(p, w) + storeOffset(w);
            if (!Memory.holds(place, 1 << f3)) {
                return ERROR_MEMORY;
            }
            memory.write(place, 1 << f3, right(p, w));
            p.pc += 4;
            return FINE;
        }

        private static int reckonWithImmediate(Proc p, int w) {
            int f3 = f3(w);
            boolean shift = f3 == 1 || f3 == 5;
            boolean other = f3 == 5 && f7(w) == 32;
            if (shift && f7(w) != 0 && !other) {
                return ERROR_INSTRUCTION;
            }
            return finish(p, w, reckon(f3, other, left(p, w), immediate(w)), p.pc + 4);
        }

        private static int reckonWithRegister(Proc p, int w) {
            int f3 = f3(w);
            boolean other = (f3 == 0 || f3 == 5) && f7(w) == 32;
            if (f7(w) != 0 && !other) {
                return ERROR_INSTRUCTION;
            }
            return finish(p, w, reckon(f3, other, left(p, w), right(p, w)), p.pc + 4);
        }

        /** Java's shifts use the lowest 5 bits of s alone, just as the document asks. */
        private static int reckon(int f3, boolean other, int r, int s) {
            switch (f3) {
                case 0:
                    return other ? r - s : r + s;
                case 1:
                    return r << s;
                case 2:
                    return r < s ? 1 : 0;
                case 3:
                    return isBelow(r, s) ? 1 : 0;
                case 4:
                    return r ^ s;
                case 5:
                    return other ? r >> s : r >>> s;
                case 6:
                    return r | s;
                default:
                    return r & s;
            }
        }

        /** Without sign: turning the highest bit makes the signed order the unsigned one. */
        private static boolean isBelow(int r, int s) {
            return (r ^ SIGN) < (s ^ SIGN);
        }

        private static int f3(int w) {
            return w >> 12 & 7;
        }

        private static int f7(int w) {
            return w >>> 25;
        }

        private static int left(Proc p, int w) {
            return p.get(w >> 15 & 31);
        }

        private static int right(Proc p, int w) {
            return p.get(w >> 20 & 31);
        }

        private static int immediate(int w) {
            return w >> 20;
        }

        private static int upper(int w) {
            return w & ~4095;
        }

        private static int storeOffset(int w) {
            return (w >> 25 << 5) | (w >> 7 & 31);
        }

        private static int jumpOffset(int w) {
            return (w >> 31 << 20) | (w >> 12 & 255) << 12 | (w >> 20 & 1) << 11 | (w >> 21 & 1023) << 1;
        }

        private static int branchOffset(int w) {
            return (w >> 31 << 12) | (w >> 7 & 1) << 11 | (w >> 25 & 63) << 5 | (w >> 8 & 15) << 1;
        }
    }
}
