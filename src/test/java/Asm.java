/** Words of the small machine's instructions, put together from their parts. */
final class Asm {
    static final int CALL = 115;

    static int lui(int rd, int upper) {
        return (upper & ~4095) | rd << 7 | 55;
    }

    static int auipc(int rd, int upper) {
        return (upper & ~4095) | rd << 7 | 23;
    }

    static int jal(int rd, int offset) {
        int sign = (offset >> 20 & 1) << 31;
        int low = (offset >> 1 & 1023) << 21;
        int middle = (offset >> 11 & 1) << 20;
        int high = (offset >> 12 & 255) << 12;
        return sign | low | middle | high | rd << 7 | 111;
    }

    static int immediate(int op, int f3, int rd, int r, int i) {
        return i << 20 | r << 15 | f3 << 12 | rd << 7 | op;
    }

    static int jalr(int rd, int r, int i) {
        return immediate(103, 0, rd, r, i);
    }

    static int load(int f3, int rd, int r, int i) {
        return immediate(3, f3, rd, r, i);
    }

    static int store(int f3, int s, int r, int i) {
        return (i >> 5 & 127) << 25 | s << 20 | r << 15 | f3 << 12 | (i & 31) << 7 | 35;
    }

    static int branch(int f3, int r, int s, int offset) {
        int sign = (offset >> 12 & 1) << 31;
        int high = (offset >> 5 & 63) << 25;
        int low = (offset >> 1 & 15) << 8;
        int eleventh = (offset >> 11 & 1) << 7;
        return sign | high | s << 20 | r << 15 | f3 << 12 | low | eleventh | 99;
    }

    static int registers(int f7, int f3, int rd, int r, int s) {
        return f7 << 25 | s << 20 | r << 15 | f3 << 12 | rd << 7 | 51;
    }

    static int addi(int rd, int r, int i) {
        return immediate(19, 0, rd, r, i);
    }

    /** Sets a register to a value of -2048 .. 2047. */
    static int li(int rd, int value) {
        return addi(rd, 0, value);
    }

    /** The word that stands still: a jump to itself. */
    static int idle() {
        return jal(0, 0);
    }

    /** Words that make the call with a and b (each -2048 .. 2047): four instructions. */
    static int[] call(int number, int a, int b) {
        return new int[] {li(17, number), li(10, a), li(11, b), CALL};
    }

    static int[] join(int[]... parts) {
        int length = 0;
        for (int[] part : parts) {
            length += part.length;
        }
        int[] all = new int[length];
        int at = 0;
        for (int[] part : parts) {
            System.arraycopy(part, 0, all, at, part.length);
            at += part.length;
        }
        return all;
    }

    static int[] words(int... words) {
        return words;
    }

    static void place(PartitionKernel k, int partition, int at, int... words) {
        for (int n = 0; n < words.length; n++) {
            k.poke(partition, at + 4 * n, words[n]);
        }
    }

    private Asm() {
    }
}
