import java.util.ArrayDeque;
import java.util.ArrayList;
import java.util.Comparator;
import java.util.List;

/**
 * The document written down a second time, for comparison: lines of processes as lists, memory as
 * bytes, the errors all kept, bits picked one by one, and nothing shared with PartitionKernel.
 */
final class ReferenceKernel {
    static final class Proc {
        int number;
        int entry;
        int priority;
        int period;
        int deadline;
        int[] x = new int[32];
        int pc;
        String state = "DORMANT";
        Long due;
        long release;
        Long wakes;
        Integer semaphore;
        int count;
    }

    static final class Part {
        byte[] memory = new byte[1024];
        List<Proc> processes = new ArrayList<>();
        List<Proc> ready = new ArrayList<>();
        List<List<Proc>> waiting = List.of(new ArrayList<>(), new ArrayList<>(), new ArrayList<>(), new ArrayList<>());
        int[] semaphores = new int[4];
        int[] actions = new int[4];
        boolean stopped;
        int again;
    }

    static final class Chan {
        boolean queue;
        int from;
        int to;
        int limit;
        ArrayDeque<Integer> words = new ArrayDeque<>();
        long time = -1;
    }

    /** What ends an instruction that went wrong. */
    private static final class Wrong extends Exception {
        private static final long serialVersionUID = 1;
        final int kind;

        Wrong(int kind) {
            this.kind = kind;
        }
    }

    final Part[] parts = {new Part(), new Part(), new Part(), new Part()};
    final List<Chan> channels = new ArrayList<>();
    final List<int[]> windows = new ArrayList<>();
    final List<long[]> errors = new ArrayList<>();
    long time;
    int instructions;
    boolean begun;

    void window(int partition, int ticks) {
        windows.add(new int[] {partition, ticks});
    }

    int process(int partition, int entry, int priority, int period, int deadline) {
        Proc p = new Proc();
        p.number = parts[partition].processes.size();
        p.entry = entry;
        p.priority = priority;
        p.period = period;
        p.deadline = deadline;
        parts[partition].processes.add(p);
        return p.number;
    }

    int channel(boolean queue, int from, int to, int limit) {
        Chan c = new Chan();
        c.queue = queue;
        c.from = from;
        c.to = to;
        c.limit = limit;
        channels.add(c);
        return channels.size() - 1;
    }

    void poke(int partition, int place, int word) {
        for (int n = 0; n < 4; n++) {
            parts[partition].memory[place + n] = (byte) (word >> 8 * n);
        }
    }

    int peek(int partition, int place) {
        return (int) bytes(parts[partition], place, 4);
    }

    private static long bytes(Part part, int place, int size) {
        long value = 0;
        for (int n = size - 1; n >= 0; n--) {
            value = value * 256 + (part.memory[place + n] & 255);
        }
        return value;
    }

    void begin() {
        begun = true;
        for (Part part : parts) {
            for (Proc p : part.processes) {
                begins(part, p);
            }
        }
    }

    int owner() {
        long frame = 0;
        for (int[] w : windows) {
            frame += w[1];
        }
        long at = time % frame;
        for (int[] w : windows) {
            if (at < w[1]) {
                return w[0];
            }
            at -= w[1];
        }
        throw new IllegalStateException();
    }

    int run(int n) {
        int before = instructions;
        for (int k = 0; k < n; k++) {
            int number = owner();
            if (!parts[number].stopped) {
                tick(number, parts[number]);
            }
            time++;
        }
        return instructions - before;
    }

    private void leave(Part part, Proc p) {
        part.ready.remove(p);
        for (List<Proc> line : part.waiting) {
            line.remove(p);
        }
        p.wakes = null;
        p.semaphore = null;
    }

    private void readies(Part part, Proc p) {
        leave(part, p);
        p.state = "READY";
        part.ready.add(p);
    }

    private void begins(Part part, Proc p) {
        p.x = new int[32];
        p.pc = p.entry;
        p.release = time;
        p.due = p.deadline == 0 ? null : Long.valueOf(time + p.deadline);
        readies(part, p);
    }

    private void rests(Part part, Proc p) {
        leave(part, p);
        p.state = "DORMANT";
        p.due = null;
    }

    private void sleeps(Part part, Proc p, long until) {
        leave(part, p);
        p.state = "TIME";
        p.wakes = until;
    }

    private void tick(int number, Part part) {
        part.processes.stream().filter(p -> p.state.equals("TIME") && p.wakes <= time)
            .sorted(Comparator.comparing((Proc p) -> p.wakes).thenComparing(p -> p.number)).toList()
            .forEach(p -> readies(part, p));
        for (Proc p : part.processes) {
            if (p.due != null && p.due < time) {
                p.due = null;
                if (wrong(number, part, p, 2)) {
                    return;
                }
            }
        }
        Proc p = greatest(part.ready);
        if (p == null) {
            return;
        }
        instructions++;
        p.count++;
        int pc = p.pc;
        try {
            instruction(number, part, p);
        } catch (Wrong w) {
            if (p.pc != pc) {
                throw new IllegalStateException();
            }
            wrong(number, part, p, w.kind);
        }
    }

    static Proc greatest(List<Proc> line) {
        Proc best = null;
        for (Proc p : line) {
            if (best == null || p.priority > best.priority) {
                best = p;
            }
        }
        return best;
    }

    private boolean wrong(int number, Part part, Proc p, int kind) {
        errors.add(0, new long[] {time, number, p.number, kind});
        int action = part.actions[kind];
        if (action == 0 && kind != 2) {
            p.pc += 4;
        } else if (action == 1) {
            rests(part, p);
        } else if (action == 2) {
            begins(part, p);
        } else if (action == 3) {
            part.again++;
            part.semaphores = new int[4];
            for (Proc each : part.processes) {
                begins(part, each);
            }
        } else if (action == 4) {
            part.stopped = true;
        }
        return action >= 3;
    }

    private static long bits(int w, int high, int low) {
        return (w & 0xFFFFFFFFL) >> low & (1L << high - low + 1) - 1;
    }

    private static int signed(long value, int width) {
        return (int) (value >= 1L << width - 1 ? value - (1L << width) : value);
    }

    private static int place(long place, int size) throws Wrong {
        long at = place & 0xFFFFFFFFL;
        if (at % size != 0 || at >= 1024) {
            throw new Wrong(1);
        }
        return (int) at;
    }

    private static void put(Proc p, int rd, long value) {
        if (rd != 0) {
            p.x[rd] = (int) value;
        }
    }

    private void instruction(int number, Part part, Proc p) throws Wrong {
        int w = (int) bytes(part, place(p.pc, 4), 4);
        int op = (int) bits(w, 6, 0);
        int rd = (int) bits(w, 11, 7);
        int f3 = (int) bits(w, 14, 12);
        int f7 = (int) bits(w, 31, 25);
        int r = p.x[(int) bits(w, 19, 15)];
        int s = p.x[(int) bits(w, 24, 20)];
        int i = signed(bits(w, 31, 20), 12);
        long u = bits(w, 31, 12) << 12;
        int next = p.pc + 4;
        if (op == 55) {
            put(p, rd, u);
        } else if (op == 23) {
            put(p, rd, p.pc + u);
        } else if (op == 111) {
            long j = bits(w, 31, 31) << 20 | bits(w, 19, 12) << 12 | bits(w, 20, 20) << 11 | bits(w, 30, 21) << 1;
            put(p, rd, p.pc + 4);
            next = p.pc + signed(j, 21);
        } else if (op == 103 && f3 == 0) {
            put(p, rd, p.pc + 4);
            next = r + i & ~1;
        } else if (op == 99 && f3 != 2 && f3 != 3) {
            long b = bits(w, 31, 31) << 12 | bits(w, 7, 7) << 11 | bits(w, 30, 25) << 5 | bits(w, 11, 8) << 1;
            next = holds(f3, r, s) ? p.pc + signed(b, 13) : next;
        } else if (op == 3) {
            put(p, rd, loaded(part, f3, (long) r + i));
        } else if (op == 35 && f3 < 3) {
            int size = f3 == 0 ? 1 : f3 == 1 ? 2 : 4;
            int at = place((long) r + signed(bits(w, 31, 25) << 5 | bits(w, 11, 7), 12), size);
            for (int n = 0; n < size; n++) {
                part.memory[at + n] = (byte) (s >> 8 * n);
            }
        } else if (op == 19) {
            put(p, rd, reckoned(f3, f3 == 1 || f3 == 5 ? f7 : 0, r, i));
        } else if (op == 51) {
            if (f7 != 0 && f3 != 0 && f3 != 5) {
                throw new Wrong(0);
            }
            put(p, rd, f3 == 0 && f7 == 32 ? (long) r - s : reckoned(f3, f7, r, s));
        } else if (w == 115) {
            call(number, part, p);
            return;
        } else {
            throw new Wrong(0);
        }
        p.pc = next;
    }

    private static boolean holds(int f3, int r, int s) {
        return switch (f3) {
            case 0 -> r == s;
            case 1 -> r != s;
            case 4 -> r < s;
            case 5 -> r >= s;
            case 6 -> Integer.compareUnsigned(r, s) < 0;
            default -> Integer.compareUnsigned(r, s) >= 0;
        };
    }

    private static int loaded(Part part, int f3, long at) throws Wrong {
        return switch (f3) {
            case 0 -> part.memory[place(at, 1)];
            case 1 -> signed(bytes(part, place(at, 2), 2), 16);
            case 2 -> (int) bytes(part, place(at, 4), 4);
            case 4 -> part.memory[place(at, 1)] & 255;
            case 5 -> (int) bytes(part, place(at, 2), 2);
            default -> throw new Wrong(0);
        };
    }

    private static int reckoned(int f3, int f7, int r, int s) throws Wrong {
        int n = s & 31;
        if (f3 == 5 && f7 == 32) {
            return (int) Math.floorDiv((long) r, 1L << n);
        }
        if (f7 != 0) {
            throw new Wrong(0);
        }
        return switch (f3) {
            case 0 -> (int) ((long) r + s);
            case 1 -> (int) (r * (1L << n));
            case 2 -> r < s ? 1 : 0;
            case 3 -> Integer.compareUnsigned(r, s) < 0 ? 1 : 0;
            case 4 -> (r | s) & ~(r & s);
            case 5 -> (int) ((r & 0xFFFFFFFFL) / (1L << n));
            case 6 -> r | s;
            default -> r & s;
        };
    }

    private static Proc process(Part part, int a) {
        return a >= 0 && a < part.processes.size() ? part.processes.get(a) : null;
    }

    private void call(int number, Part part, Proc p) throws Wrong {
        int a = p.x[10];
        int b = p.x[11];
        int which = p.x[17];
        if (which == 10) {
            throw new Wrong(3);
        }
        if (which < 0 || which > 10) {
            throw new Wrong(0);
        }
        p.pc += 4;
        Proc other = process(part, a);
        switch (which) {
            case 0 -> rests(part, p);
            case 1 -> {
                if (p.period != 0) {
                    p.release += p.period;
                    sleeps(part, p, p.release);
                    if (p.deadline != 0) {
                        p.due = p.release + p.deadline;
                    }
                }
                p.x[10] = p.period != 0 ? 0 : 1;
            }
            case 2 -> {
                if (0 <= a && a <= 100000) {
                    sleeps(part, p, time + a);
                }
                p.x[10] = 0 <= a && a <= 100000 ? 0 : 1;
            }
            case 3 -> {
                boolean can = other != null && other.state.equals("DORMANT");
                if (can) {
                    begins(part, other);
                }
                p.x[10] = can ? 0 : 1;
            }
            case 4 -> {
                boolean can = other != null && b >= 0 && b < 16;
                if (can) {
                    other.priority = b;
                }
                p.x[10] = can ? 0 : 1;
            }
            case 5 -> p.x[10] = (int) time;
            case 6 -> p.x[10] = take(part, p, a);
            case 7 -> p.x[10] = give(part, a);
            case 8 -> p.x[10] = send(number, a, b);
            default -> p.x[10] = receive(number, p, a);
        }
    }

    private int take(Part part, Proc p, int a) {
        if (a < 0 || a > 3) {
            return 1;
        }
        if (part.semaphores[a] > 0) {
            part.semaphores[a]--;
        } else {
            leave(part, p);
            p.state = "SEMAPHORE";
            p.semaphore = a;
            part.waiting.get(a).add(p);
        }
        return 0;
    }

    private int give(Part part, int a) {
        if (a < 0 || a > 3) {
            return 1;
        }
        Proc p = greatest(part.waiting.get(a));
        if (p != null) {
            readies(part, p);
            return 0;
        }
        if (part.semaphores[a] == 1000) {
            return 1;
        }
        part.semaphores[a]++;
        return 0;
    }

    private int send(int number, int a, int b) {
        if (a < 0 || a >= channels.size() || channels.get(a).from != number) {
            return 1;
        }
        Chan c = channels.get(a);
        if (c.queue && c.words.size() == c.limit) {
            return 2;
        }
        if (!c.queue) {
            c.words.clear();
            c.time = time;
        }
        c.words.addLast(b);
        return 0;
    }

    private int receive(int number, Proc p, int a) {
        if (a < 0 || a >= channels.size() || channels.get(a).to != number) {
            return 1;
        }
        Chan c = channels.get(a);
        if (c.words.isEmpty()) {
            return 2;
        }
        p.x[11] = c.words.getFirst();
        if (c.queue) {
            c.words.removeFirst();
            return 0;
        }
        return time > c.time + c.limit ? 3 : 0;
    }

    int state(int partition, int process, int what) {
        Proc p = parts[partition].processes.get(process);
        return switch (what) {
            case 0 -> List.of("DORMANT", "READY", "TIME", "SEMAPHORE").indexOf(p.state);
            case 1 -> p.pc;
            case 2 -> p.priority;
            case 3 -> p.due == null ? -1 : (int) (long) p.due;
            case 4 -> p.wakes == null ? -1 : (int) (long) p.wakes;
            case 5 -> p.semaphore == null ? -1 : p.semaphore;
            case 6 -> p.count;
            default -> (int) p.release;
        };
    }
}
