import java.util.Random;

/** Random runs beside ReferenceKernel, and calls with arguments of any value, all from fixed seeds. */
final class ReferenceTest {
    private static final Check CHECK = new Check("ReferenceTest");
    private static final int RUNS = 1500;
    private static final int WILD_RUNS = 1500;

    private final Random random;
    private final PartitionKernel kernel = new PartitionKernel();
    private final ReferenceKernel reference = new ReferenceKernel();
    private String name;

    private ReferenceTest(long seed) {
        random = new Random(seed);
        name = "seed " + seed;
    }

    public static void main(String[] args) {
        for (int seed = 0; seed < RUNS; seed++) {
            new ReferenceTest(seed).compare();
        }
        for (int seed = 0; seed < WILD_RUNS; seed++) {
            wild(new Random(1000000 + seed));
        }
        CHECK.finish();
    }

    private int below(int bound) {
        return random.nextInt(bound);
    }

    private void compare() {
        setUp();
        sameAll();
        kernel.begin();
        reference.begin();
        sameAll();
        int steps = 4 + below(12);
        for (int k = 0; k < steps; k++) {
            if (below(4) == 0) {
                setAction();
            }
            if (below(4) == 0) {
                poke(below(4), 4 * below(256), word(below(256)));
            }
            int n = below(3) == 0 ? below(8) : below(5) == 0 ? below(501) : below(60);
            CHECK.same(name + " run(" + n + ") at " + reference.time, kernel.run(n), reference.run(n));
            sameAll();
        }
    }

    private void setUp() {
        int windows = 1 + below(8);
        for (int k = 0; k < windows; k++) {
            int partition = below(4);
            int ticks = 1 + below(below(3) == 0 ? 100 : 12);
            kernel.window(partition, ticks);
            reference.window(partition, ticks);
        }
        int channels = below(9);
        for (int k = 0; k < channels; k++) {
            boolean queue = random.nextBoolean();
            int from = below(4);
            int to = below(4);
            int limit = queue ? 1 + below(8) : below(3) == 0 ? below(100001) : below(40);
            CHECK.same(name + " channel", kernel.channel(queue, from, to, limit),
                reference.channel(queue, from, to, limit));
        }
        for (int p = 0; p < 4; p++) {
            int processes = below(9);
            int priorities = 1 + below(16);
            for (int k = 0; k < processes; k++) {
                int entry = below(30) == 0 ? random.nextInt() : 4 * below(200);
                int priority = below(priorities);
                int period = below(2) == 0 ? 0 : 1 + below(below(8) == 0 ? 100000 : 60);
                int deadline = below(3) != 0 ? 0 : 1 + below(below(8) == 0 ? 100000 : 80);
                CHECK.same(name + " process", kernel.process(p, entry, priority, period, deadline),
                    reference.process(p, entry, priority, period, deadline));
            }
            fill(p);
        }
        for (int k = below(12); k > 0; k--) {
            setAction();
        }
    }

    private void setAction() {
        int partition = below(4);
        int error = below(4);
        int action = below(5) == 0 ? below(5) : below(4);
        kernel.action(partition, error, action);
        reference.parts[partition].actions[error] = action;
    }

    private void poke(int partition, int place, int word) {
        kernel.poke(partition, place, word);
        reference.poke(partition, place, word);
    }

    /** Programs that are mostly calls with likely arguments, and other instructions between them. */
    private void fill(int partition) {
        int at = 0;
        while (at < 256) {
            int[] piece = below(5) < 3 ? call() : new int[] {word(at)};
            for (int k = 0; k < piece.length && at < 256; k++) {
                poke(partition, 4 * at, piece[k]);
                at++;
            }
        }
    }

    private int[] call() {
        int number = below(40) == 0 ? below(4096) - 2048 : below(6) == 0 ? below(11) : 1 + below(9);
        if (number == 2) {
            return Asm.call(2, below(12) == 0 ? -1 : below(30), 0);
        }
        return Asm.call(number, below(12) == 0 ? below(12) - 2 : below(4), below(12) == 0 ? random.nextInt(20) - 2 : below(16));
    }

    private int word(int at) {
        int rd = below(32);
        int r = below(3) == 0 ? 0 : below(32);
        int s = below(32);
        int place = below(8) == 0 ? below(1040) - 8 : 4 * (200 + below(56)) + below(4);
        switch (below(11)) {
            case 0:
                return random.nextInt() & ~127 | 55;
            case 1:
                return below(2) == 0 ? Asm.auipc(rd, 0) : random.nextInt() & ~127 | 23;
            case 2:
                return Asm.jal(rd, below(30) == 0 ? 2 * below(2000) - 2000 : 4 * below(256) - 4 * at);
            case 3:
                return Asm.jalr(rd, 0, below(30) == 0 ? below(2048) : 4 * below(256));
            case 4:
                return Asm.branch(below(8), r, s, below(20) == 0 ? 2 * below(4096) - 4096 : 4 * below(256) - 4 * at);
            case 5:
                return Asm.load(below(8), rd, below(6) == 0 ? r : 0, place);
            case 6:
                return Asm.store(below(10) == 0 ? below(8) : below(3), s, below(6) == 0 ? r : 0, place);
            case 7:
            case 8:
                return Asm.immediate(19, below(8), rd, r, below(3) == 0 ? below(64) | 1024 * below(2) : below(4096));
            case 9:
                return Asm.registers(below(8) == 0 ? below(128) : 32 * below(2), below(8), rd, r, s);
            default:
                return random.nextInt() & ~127 | (below(2) == 0 ? below(128) : 115);
        }
    }

    private void sameAll() {
        CHECK.same(name + " about(0)", kernel.about(0), reference.time);
        CHECK.same(name + " about(1)", kernel.about(1), reference.errors.size());
        CHECK.same(name + " about(2)", kernel.about(2), reference.instructions);
        CHECK.same(name + " about(3)", kernel.about(3), reference.begun ? reference.owner() : -1);
        for (int p = 0; p < 4; p++) {
            samePartition(p, reference.parts[p]);
        }
        for (int c = 0; c < reference.channels.size(); c++) {
            sameChannel(c, reference.channels.get(c));
        }
        for (int k = 0; k < 66; k++) {
            for (int what = 0; what < 4; what++) {
                long due = k < 64 && k < reference.errors.size() ? reference.errors.get(k)[what] : -1;
                CHECK.same(name + " error(" + k + ", " + what + ")", kernel.error(k, what), due);
            }
        }
    }

    private void samePartition(int p, ReferenceKernel.Part part) {
        ReferenceKernel.Proc first = ReferenceKernel.greatest(part.ready);
        CHECK.same(name + " partition 0", kernel.partition(p, 0), part.stopped ? 1 : 0);
        CHECK.same(name + " partition 1", kernel.partition(p, 1), part.processes.size());
        CHECK.same(name + " partition 2", kernel.partition(p, 2), first == null ? -1 : first.number);
        CHECK.same(name + " partition 3", kernel.partition(p, 3), part.again);
        for (int s = 0; s < 4; s++) {
            CHECK.same(name + " semaphore", kernel.partition(p, 4 + s), part.semaphores[s]);
        }
        for (int place = 0; place < 1024; place += 4) {
            CHECK.same(name + " peek " + place, kernel.peek(p, place), reference.peek(p, place));
        }
        for (int n = 0; n < part.processes.size(); n++) {
            for (int what = 0; what < 8; what++) {
                CHECK.same(name + " state(" + p + ", " + n + ", " + what + ") at " + reference.time,
                    kernel.state(p, n, what), reference.state(p, n, what));
            }
            for (int x = 0; x < 32; x++) {
                CHECK.same(name + " register " + x, kernel.register(p, n, x), part.processes.get(n).x[x]);
            }
        }
    }

    private void sameChannel(int number, ReferenceKernel.Chan c) {
        CHECK.same(name + " traffic 0", kernel.traffic(number, 0), c.words.size());
        CHECK.same(name + " traffic 1", kernel.traffic(number, 1), c.time);
        int k = 0;
        for (int word : c.words) {
            CHECK.same(name + " word " + k, kernel.word(number, k), word);
            k++;
        }
        CHECK.same(name + " word behind the last", kernel.word(number, k), 0);
    }

    private static int any(Random random) {
        int[] edges = {Integer.MIN_VALUE, Integer.MAX_VALUE, 16, 100, 101, 500, 501, 1020, 1024, 100000, 100001};
        int kind = random.nextInt(8);
        return kind == 0 ? random.nextInt() : kind == 1 ? edges[random.nextInt(edges.length)] : random.nextInt(11) - 1;
    }

    /** 512 calls of any kind with arguments of any value: only what the face names may come out. */
    private static void wild(Random random) {
        PartitionKernel k = new PartitionKernel();
        int begins = random.nextInt(120);
        for (int n = 0; n < 512; n++) {
            int[] a = {any(random), any(random), any(random), any(random), any(random)};
            int which = n == begins ? 5 : random.nextInt(15);
            String thrown = Check.thrownBy(() -> make(k, which, a, random));
            String allowed = which == 3 ? "IndexOutOfBoundsException IllegalArgumentException"
                : which == 4 ? "IndexOutOfBoundsException" : which == 5 ? "IllegalStateException"
                : which == 6 ? "IllegalArgumentException IllegalStateException"
                : which < 3 ? "IndexOutOfBoundsException IllegalArgumentException IllegalStateException" : "";
            boolean fine = thrown.equals("nothing") || (" " + allowed + " ").contains(" " + thrown + " ");
            CHECK.same("call " + which + " throws " + thrown, fine ? 0 : 1, 0);
        }
    }

    private static void make(PartitionKernel k, int which, int[] a, Random random) {
        switch (which) {
            case 0 -> k.window(a[0], a[1]);
            case 1 -> k.process(a[0], a[1], a[2], a[3], a[4]);
            case 2 -> k.channel(random.nextBoolean(), a[0], a[1], a[2]);
            case 3 -> k.action(a[0], a[1], a[2]);
            case 4 -> k.poke(a[0], random.nextBoolean() ? 4 * random.nextInt(257) : a[1], random.nextInt());
            case 5 -> k.begin();
            case 6 -> k.run(a[0]);
            case 7 -> k.peek(a[0], a[1]);
            case 8 -> k.register(a[0], a[1], a[2]);
            case 9 -> k.state(a[0], a[1], a[2]);
            case 10 -> k.partition(a[0], a[1]);
            case 11 -> k.traffic(a[0], a[1]);
            case 12 -> k.word(a[0], a[1]);
            case 13 -> k.error(a[0], a[1]);
            default -> k.about(a[0]);
        }
    }
}
