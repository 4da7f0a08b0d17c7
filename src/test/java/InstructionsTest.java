/** The term of INSTRUCTIONS, sentence by sentence: each of them, its edges, and the words that are none. */
final class InstructionsTest {
    private static final Check CHECK = new Check("InstructionsTest");
    private static final int LEAST = Integer.MIN_VALUE;
    private static final int GREATEST = Integer.MAX_VALUE;
    private static final int[] VALUES = {0, 1, -1, 2, 5, 31, 32, 33, 2047, -2048, 4096,
        0x12345678, 0x87654321, Integer.MIN_VALUE, Integer.MAX_VALUE, Integer.MIN_VALUE + 1};
    private static final int[] IMMEDIATES = {0, 1, -1, 2, 31, 32, 33, 1023, 1024, 2047, -2048, -2047};

    public static void main(String[] args) {
        places();
        jumps();
        memory();
        reckoning();
        CHECK.sentence("115: just the word 115, a CALL", InstructionsTest::callWord);
        CHECK.sentence("All else: error 0", InstructionsTest::noInstructions);
        CHECK.sentence("What goes wrong changes nothing", InstructionsTest::wrongChangesNothing);
        CHECK.sentence("rd is set last", InstructionsTest::rdIsSetLast);
        CHECK.finish();
    }

    private static void places() {
        CHECK.sentence("a word at PC: what was stored there", InstructionsTest::programChangesItself);
        CHECK.sentence("PC below 1024", InstructionsTest::lastPlace);
        CHECK.sentence("PC not below 1024: error 1", () -> noWordAt(1024, 1028, 2048, 65536, GREATEST - 3));
        CHECK.sentence("PC below 0: error 1", () -> noWordAt(-4, -8, -1024, LEAST, LEAST + 1024));
        CHECK.sentence("PC no multiple of 4: error 1", () -> noWordAt(1, 2, 3, 5, 6, 1021, 1022, 1023, -1, -2, GREATEST));
        CHECK.sentence("PC is 4 more behind it, turning over", InstructionsTest::pcTurnsOver);
        CHECK.sentence("rd, r, s: each of the registers", InstructionsTest::eachRegister);
    }

    private static void jumps() {
        CHECK.sentence("55: rd = u, the lowest 12 bits 0", InstructionsTest::upper);
        CHECK.sentence("23: rd = PC + u, turning over", InstructionsTest::upperAndPc);
        CHECK.sentence("111: rd = PC + 4, PC += j", InstructionsTest::jumpByOffset);
        CHECK.sentence("111: j: each bit, the first one the sign", InstructionsTest::jumpOffsets);
        CHECK.sentence("103: PC = (r + i) & ~1", InstructionsTest::jumpToRegister);
        CHECK.sentence("103, f3 not 0: error 0", InstructionsTest::jumpToRegisterOfOtherKind);
        for (int f3 : new int[] {0, 1, 4, 5, 6, 7}) {
            CHECK.sentence("99, f3 " + f3, () -> branches(f3));
        }
        CHECK.sentence("99, f3 2, 3: error 0", InstructionsTest::branchesOfOtherKind);
        CHECK.sentence("99: b: each bit, the first one the sign", InstructionsTest::branchOffsets);
    }

    private static void memory() {
        CHECK.sentence("3, f3 0, 4: byte with and without its sign", InstructionsTest::loadBytes);
        CHECK.sentence("3, f3 1, 5: half with and without its sign", InstructionsTest::loadHalves);
        CHECK.sentence("3, f3 2: word", InstructionsTest::loadWords);
        CHECK.sentence("3, f3 3, 6, 7: error 0", InstructionsTest::loadsOfOtherKind);
        CHECK.sentence("35, f3 0, 1, 2: byte, half, word", InstructionsTest::stores);
        CHECK.sentence("35: at r + (bits 31 .. 25, 11 .. 7)", InstructionsTest::storeOffsets);
        CHECK.sentence("35, f3 3 .. 7: error 0", InstructionsTest::storesOfOtherKind);
        CHECK.sentence("Places of 3: a multiple of the size, below 1024, else error 1", InstructionsTest::loadPlaces);
        CHECK.sentence("Places of 35: a multiple of the size, below 1024, else error 1", InstructionsTest::storePlaces);
        CHECK.sentence("Places turn over", InstructionsTest::placesTurnOver);
    }

    private static void reckoning() {
        for (int f3 : new int[] {0, 2, 3, 4, 6, 7}) {
            CHECK.sentence("19, f3 " + f3, () -> withImmediate(f3));
        }
        CHECK.sentence("19, f3 1, 5: n the lowest 5 bits of i", InstructionsTest::shiftsByImmediate);
        CHECK.sentence("19, f3 1, f7 not 0: error 0", () -> noShift(1, 0));
        CHECK.sentence("19, f3 5, f7 not 0 or 32: error 0", () -> noShift(5, 32));
        for (int n = 0; n < 8; n++) {
            int f3 = n;
            CHECK.sentence("51, f7 0, f3 " + f3, () -> withRegister(0, f3));
        }
        CHECK.sentence("51, f7 32, f3 0", () -> withRegister(32, 0));
        CHECK.sentence("51, f7 32, f3 5", () -> withRegister(32, 5));
        CHECK.sentence("51: shifts by the lowest 5 bits", InstructionsTest::shiftsByRegister);
        CHECK.sentence("51, other f7: error 0", InstructionsTest::noSuchReckoning);
    }

    /** A kernel with one process in partition 1 and a word at 512, its registers r and s set. */
    private static PartitionKernel machine(int word, int r, int s) {
        PartitionKernel k = new PartitionKernel();
        k.process(1, 0, 0, 0, 0);
        k.window(1, 100);
        Asm.place(k, 1, 0, Asm.load(2, 1, 0, 1016), Asm.load(2, 2, 0, 1020), Asm.li(3, 77), Asm.jal(0, 500));
        k.poke(1, 1016, r);
        k.poke(1, 1020, s);
        k.poke(1, 512, word);
        k.begin();
        CHECK.same("set up", k.run(4), 4);
        CHECK.same("set up", k.state(1, 0, 1), 512);
        return k;
    }

    private static PartitionKernel done(int word, int r, int s) {
        PartitionKernel k = machine(word, r, s);
        CHECK.same("instructions", k.run(1), 1);
        return k;
    }

    private static void due(String what, PartitionKernel k, int rd, int value, int pc) {
        CHECK.same(what + ": errors", k.about(1), 0);
        CHECK.same(what + ": rd", k.register(1, 0, rd), value);
        CHECK.same(what + ": PC", k.state(1, 0, 1), pc);
    }

    /** Nothing but the error is seen: PC is 4 more by action 0, the registers are as they were. */
    private static void wrong(String what, PartitionKernel k, int kind) {
        CHECK.same(what + ": errors", k.about(1), 1);
        CHECK.same(what + ": kind", k.error(0, 3), kind);
        CHECK.same(what + ": x3", k.register(1, 0, 3), 77);
        CHECK.same(what + ": PC", k.state(1, 0, 1), 516);
        for (int x = 4; x < 32; x++) {
            CHECK.same(what + ": x" + x, k.register(1, 0, x), 0);
        }
    }

    private static void upper() {
        for (int value : VALUES) {
            due("lui", done(Asm.lui(3, value), 0, 0), 3, value & ~4095, 516);
        }
        due("lui, all bits", done(0xFFFFF000 | 3 << 7 | 55, 0, 0), 3, -4096, 516);
    }

    private static void upperAndPc() {
        for (int value : VALUES) {
            due("auipc", done(Asm.auipc(3, value), 0, 0), 3, 512 + (value & ~4095), 516);
        }
        due("auipc, below 0", done(Asm.auipc(3, -4096), 0, 0), 3, -3584, 516);
        due("auipc, the greatest u", done(Asm.auipc(3, GREATEST), 0, 0), 3, 0x7FFFF200, 516);
    }

    private static void jumpByOffset() {
        PartitionKernel k = machine(Asm.jal(3, 8), 0, 0);
        k.poke(1, 520, Asm.jal(4, -520));
        k.run(1);
        due("jal ahead", k, 3, 516, 520);
        k.run(1);
        due("jal back", k, 4, 524, 0);
        due("jal nowhere", done(Asm.jal(3, 0), 0, 0), 3, 516, 512);
        due("jal, the greatest j", done(Asm.jal(3, 1048574), 0, 0), 3, 516, 512 + 1048574);
        due("jal, the least j", done(Asm.jal(3, -1048576), 0, 0), 3, 516, 512 - 1048576);
    }

    private static void jumpOffsets() {
        for (int bit = 1; bit < 20; bit++) {
            int offset = 1 << bit;
            due("jal by bit " + bit, done(Asm.jal(0, offset), 0, 0), 0, 0, 512 + offset);
            due("jal by less bit " + bit, done(Asm.jal(0, -offset), 0, 0), 0, 0, 512 - offset);
        }
        due("jal, each part", done(0x0100006F, 0, 0), 0, 0, 512 + 16);
        due("jal, each part", done(0x0010006F, 0, 0), 0, 0, 512 + 2048);
        due("jal, each part", done(0x0000106F, 0, 0), 0, 0, 512 + 4096);
        due("jal, each part", done(0x8000006F, 0, 0), 0, 0, 512 - 1048576);
    }

    private static void jumpToRegister() {
        due("jalr", done(Asm.jalr(3, 1, 0), 64, 0), 3, 516, 64);
        due("jalr, lowest bit goes", done(Asm.jalr(3, 1, 1), 64, 0), 3, 516, 64);
        due("jalr, sum's lowest bit goes", done(Asm.jalr(3, 1, 1), 65, 0), 3, 516, 66);
        due("jalr by less", done(Asm.jalr(3, 1, -2048), 3000, 0), 3, 516, 952);
        due("jalr, rd is r", done(Asm.jalr(1, 1, 4), 64, 0), 1, 516, 68);
        due("jalr, turning over", done(Asm.jalr(3, 1, 2), Integer.MAX_VALUE, 0), 3, 516, Integer.MIN_VALUE);
    }

    private static void jumpToRegisterOfOtherKind() {
        for (int f3 = 1; f3 < 8; f3++) {
            wrong("jalr f3 " + f3, done(Asm.immediate(103, f3, 3, 1, 0), 64, 0), 0);
        }
    }

    private static boolean taken(int f3, int r, int s) {
        long unsignedR = Integer.toUnsignedLong(r);
        long unsignedS = Integer.toUnsignedLong(s);
        return switch (f3) {
            case 0 -> r == s;
            case 1 -> r != s;
            case 4 -> r < s;
            case 5 -> r >= s;
            case 6 -> unsignedR < unsignedS;
            default -> unsignedR >= unsignedS;
        };
    }

    private static void branches(int f3) {
        for (int r : VALUES) {
            for (int s : VALUES) {
                int pc = taken(f3, r, s) ? 576 : 516;
                due("branch " + f3 + " " + r + " " + s, done(Asm.branch(f3, 1, 2, 64), r, s), 3, 77, pc);
            }
        }
    }

    private static void branchesOfOtherKind() {
        for (int f3 = 2; f3 < 4; f3++) {
            wrong("branch f3 " + f3, done(Asm.branch(f3, 1, 2, 64), 0, 0), 0);
            wrong("branch f3 " + f3, done(Asm.branch(f3, 1, 2, 64), 1, 2), 0);
        }
    }

    private static void branchOffsets() {
        for (int bit = 1; bit < 12; bit++) {
            int offset = 1 << bit;
            due("branch by bit " + bit, done(Asm.branch(0, 0, 0, offset), 0, 0), 0, 0, 512 + offset);
            due("branch by less bit " + bit, done(Asm.branch(0, 0, 0, -offset), 0, 0), 0, 0, 512 - offset);
        }
        due("branch, lowest", done(Asm.branch(0, 0, 0, -4096), 0, 0), 0, 0, 512 - 4096);
        due("branch, each part", done(0x00000163, 0, 0), 0, 0, 512 + 2);
        due("branch, each part", done(0x000000E3, 0, 0), 0, 0, 512 + 2048);
        due("branch, each part", done(0x02000063, 0, 0), 0, 0, 512 + 32);
        due("branch, each part", done(0x80000063, 0, 0), 0, 0, 512 - 4096);
    }

    private static void loadBytes() {
        int word = 0xF17283D4;
        int[] bytes = {0xD4, 0x83, 0x72, 0xF1};
        for (int n = 0; n < 4; n++) {
            due("byte with sign", done(Asm.load(0, 3, 1, n), 1020, word), 3, (byte) bytes[n], 516);
            due("byte without", done(Asm.load(4, 3, 1, n), 1020, word), 3, bytes[n], 516);
        }
        for (int value : new int[] {0, 1, 0x7F, 0x80, 0xFF}) {
            due("byte with sign", done(Asm.load(0, 3, 1, 0), 1020, value | 0x5500), 3, (byte) value, 516);
            due("byte without", done(Asm.load(4, 3, 1, 0), 1020, value | 0x5500), 3, value, 516);
        }
    }

    private static void loadHalves() {
        int word = 0x71E283D4;
        due("half with sign", done(Asm.load(1, 3, 1, 0), 1020, word), 3, 0xFFFF83D4, 516);
        due("half with sign", done(Asm.load(1, 3, 1, 2), 1020, word), 3, 0x71E2, 516);
        due("half without", done(Asm.load(5, 3, 1, 0), 1020, word), 3, 0x83D4, 516);
        due("half without", done(Asm.load(5, 3, 1, 2), 1020, word), 3, 0x71E2, 516);
        for (int value : new int[] {0, 1, 0x7FFF, 0x8000, 0xFFFF}) {
            due("half with sign", done(Asm.load(1, 3, 1, 0), 1020, value | 0x550000), 3, (short) value, 516);
            due("half without", done(Asm.load(5, 3, 1, 0), 1020, value | 0x550000), 3, value, 516);
            due("half with sign", done(Asm.load(1, 3, 1, 2), 1020, value << 16 | 0x55), 3, (short) value, 516);
            due("half without", done(Asm.load(5, 3, 1, 2), 1020, value << 16 | 0x55), 3, value, 516);
        }
    }

    private static void loadWords() {
        for (int value : VALUES) {
            due("word", done(Asm.load(2, 3, 1, 0), 1020, value), 3, value, 516);
        }
        due("i below 0", done(Asm.load(2, 3, 1, -2048), 3068, 0x12345678), 3, 0x12345678, 516);
        due("the greatest i", done(Asm.load(2, 3, 1, 2047), 1020 - 2047, 0x12345678), 3, 0x12345678, 516);
    }

    private static void loadsOfOtherKind() {
        for (int f3 : new int[] {3, 6, 7}) {
            wrong("load f3 " + f3, done(Asm.load(f3, 3, 1, 0), 0, 0), 0);
            wrong("load f3 " + f3 + " at no place", done(Asm.load(f3, 3, 1, 1), 1024, 0), 0);
        }
    }

    private static void loadPlaces() {
        int[] sizes = {1, 2, 4, 0, 1, 2};
        for (int f3 : new int[] {0, 1, 2, 4, 5}) {
            for (int place : new int[] {-4, -2, -1, 0, 1, 2, 3, 4, 1020, 1021, 1022, 1023, 1024, 1028,
                    Integer.MAX_VALUE - 3, Integer.MIN_VALUE, 65536}) {
                boolean there = place >= 0 && place < 1024 && place % sizes[f3] == 0;
                PartitionKernel k = done(Asm.load(f3, 3, 1, 0), place, -1);
                if (there) {
                    CHECK.same("load " + f3 + " at " + place, k.about(1), 0);
                } else {
                    wrong("load " + f3 + " at " + place, k, 1);
                }
            }
        }
        wrong("load to x0 at no place", done(Asm.load(2, 0, 1, 0), 1024, 0), 1);
    }

    private static void placesTurnOver() {
        due("-4 + 4", done(Asm.load(2, 3, 1, 4), -4, 0), 3, Asm.load(2, 1, 0, 1016), 516);
        wrong("the greatest + 1", done(Asm.load(2, 3, 1, 1), GREATEST, 0), 1);
        wrong("the least - 4", done(Asm.load(2, 3, 1, -4), LEAST, 0), 1);
        PartitionKernel k = done(Asm.store(2, 2, 1, 2044), 900 - 2044, 55);
        due("below 0 + 2044", k, 3, 77, 516);
        CHECK.same("stored", k.peek(1, 900), 55);
    }

    private static void stores() {
        int[] masks = {255, 65535, -1};
        for (int f3 = 0; f3 < 3; f3++) {
            for (int at = 0; at < 4; at += 1 << f3) {
                PartitionKernel k = machine(Asm.store(f3, 2, 1, at), 800, 0xA1B2C3D4);
                k.poke(1, 796, 0x11111111);
                k.poke(1, 800, 0x55667788);
                k.poke(1, 804, 0x22222222);
                k.run(1);
                due("store", k, 3, 77, 516);
                int mask = masks[f3] << at * 8;
                CHECK.same("stored", k.peek(1, 800), (0x55667788 & ~mask) | (0xA1B2C3D4 << at * 8 & mask));
                CHECK.same("ahead of it", k.peek(1, 796), 0x11111111);
                CHECK.same("behind it", k.peek(1, 804), 0x22222222);
            }
        }
    }

    private static void storeOffsets() {
        for (int offset : new int[] {-2048, -2044, -1024, -64, -32, -4, 0, 4, 16, 28, 32, 64, 512, 1024, 2044}) {
            PartitionKernel k = done(Asm.store(2, 2, 1, offset), 900 - offset, 0x0BADCAFE);
            CHECK.same("stored by " + offset, k.peek(1, 900), 0x0BADCAFE);
            CHECK.same("another partition", k.peek(0, 900), 0);
        }
        for (int offset : new int[] {-2047, -1, 1, 2, 3, 8, 2047}) {
            PartitionKernel k = done(Asm.store(0, 2, 1, offset), 901 - offset, 0xEE);
            CHECK.same("stored by " + offset, k.peek(1, 900), 0xEE00);
        }
    }

    private static void storesOfOtherKind() {
        for (int f3 = 3; f3 < 8; f3++) {
            wrong("store f3 " + f3, done(Asm.store(f3, 2, 1, 0), 800, 9), 0);
            wrong("store f3 " + f3 + " at no place", done(Asm.store(f3, 2, 1, 0), 1025, 9), 0);
        }
    }

    private static void storePlaces() {
        for (int f3 = 0; f3 < 3; f3++) {
            for (int place : new int[] {-4, -1, 801, 802, 803, 804, 1020, 1022, 1023, 1024, 1028,
                    Integer.MIN_VALUE, Integer.MAX_VALUE}) {
                boolean there = place >= 0 && place < 1024 && place % (1 << f3) == 0;
                PartitionKernel k = machine(Asm.store(f3, 2, 1, 0), place, -1);
                k.poke(1, 1020, 0);
                k.run(1);
                if (there) {
                    CHECK.same("store " + f3 + " at " + place, k.about(1), 0);
                    CHECK.same("stored " + f3 + " at " + place, k.peek(1, place & ~3) == 0 ? 0 : 1, 1);
                } else {
                    wrong("store " + f3 + " at " + place, k, 1);
                    CHECK.same("nothing stored", k.peek(1, 800) | k.peek(1, 1020), 0);
                }
            }
        }
    }

    private static int reckoned(int f3, boolean other, int r, int s) {
        return switch (f3) {
            case 0 -> (int) (other ? (long) r - s : (long) r + s);
            case 1 -> (int) ((long) r << (s & 31));
            case 2 -> r < s ? 1 : 0;
            case 3 -> Integer.toUnsignedLong(r) < Integer.toUnsignedLong(s) ? 1 : 0;
            case 4 -> r ^ s;
            case 5 -> (int) ((other ? (long) r : Integer.toUnsignedLong(r)) >> (s & 31));
            case 6 -> r | s;
            default -> r & s;
        };
    }

    private static void withImmediate(int f3) {
        for (int r : VALUES) {
            for (int i : IMMEDIATES) {
                int value = reckoned(f3, false, r, i);
                due("19 f3 " + f3 + " " + r + " " + i, done(Asm.immediate(19, f3, 3, 1, i), r, 0), 3, value, 516);
            }
        }
    }

    private static void shiftsByImmediate() {
        for (int r : VALUES) {
            for (int n : new int[] {0, 1, 5, 16, 31}) {
                due("slli", done(Asm.immediate(19, 1, 3, 1, n), r, 0), 3, reckoned(1, false, r, n), 516);
                due("srli", done(Asm.immediate(19, 5, 3, 1, n), r, 0), 3, reckoned(5, false, r, n), 516);
                due("srai", done(Asm.immediate(19, 5, 3, 1, 1024 | n), r, 0), 3, reckoned(5, true, r, n), 516);
            }
        }
    }

    private static void noShift(int f3, int allowed) {
        for (int f7 = 1; f7 < 128; f7++) {
            if (f7 != allowed) {
                wrong("19 f3 " + f3 + " f7 " + f7, done(Asm.immediate(19, f3, 3, 1, f7 << 5), 1, 0), 0);
                wrong("19 f3 " + f3 + " f7 " + f7, done(Asm.immediate(19, f3, 3, 1, f7 << 5 | 31), -1, 0), 0);
            }
        }
    }

    private static void withRegister(int f7, int f3) {
        for (int r : VALUES) {
            for (int s : VALUES) {
                String what = "51 f3 " + f3 + " " + r + " " + s;
                due(what, done(Asm.registers(f7, f3, 3, 1, 2), r, s), 3, reckoned(f3, f7 == 32, r, s), 516);
            }
        }
    }

    private static void shiftsByRegister() {
        int r = 0x80000401;
        int[] by = {32, 33, 63, 64, -1, -32, LEAST, GREATEST};
        int[] left = {r, 0x802, LEAST, r, LEAST, r, r, LEAST};
        int[] right = {r, 0x40000200, 1, r, 1, r, r, 1};
        int[] signed = {r, 0xC0000200, -1, r, -1, r, r, -1};
        for (int n = 0; n < by.length; n++) {
            due("r << " + by[n], done(Asm.registers(0, 1, 3, 1, 2), r, by[n]), 3, left[n], 516);
            due("r >>> " + by[n], done(Asm.registers(0, 5, 3, 1, 2), r, by[n]), 3, right[n], 516);
            due("r >> " + by[n], done(Asm.registers(32, 5, 3, 1, 2), r, by[n]), 3, signed[n], 516);
        }
    }

    private static void noSuchReckoning() {
        for (int f7 = 1; f7 < 128; f7++) {
            for (int f3 = 0; f3 < 8; f3++) {
                if (f7 != 32 || f3 != 0 && f3 != 5) {
                    wrong("51 f7 " + f7 + " f3 " + f3, done(Asm.registers(f7, f3, 3, 1, 2), 5, 6), 0);
                }
            }
        }
    }

    private static void noInstructions() {
        boolean[] known = new boolean[128];
        for (int op : new int[] {55, 23, 111, 103, 99, 3, 35, 19, 51, 115}) {
            known[op] = true;
        }
        for (int op = 0; op < 128; op++) {
            if (!known[op]) {
                wrong("op " + op, done(op | 3 << 7, 1, 1), 0);
                wrong("op " + op, done(op | 0xFFFFF000 | 3 << 7, 1, 1), 0);
            }
        }
    }

    private static void callWord() {
        for (int bit = 7; bit < 32; bit++) {
            wrong("115 with bit " + bit, done(115 | 1 << bit, 0, 0), 0);
        }
        PartitionKernel k = done(115, 0, 0);
        CHECK.same("call 0: errors", k.about(1), 0);
        CHECK.same("call 0: DORMANT", k.state(1, 0, 0), 0);
    }

    private static void eachRegister() {
        for (int x = 1; x < 32; x++) {
            PartitionKernel k = machine(Asm.li(x, 100 + x), 1, 2);
            k.poke(1, 516, Asm.registers(0, 0, 32 - x, x, x));
            k.poke(1, 520, Asm.store(2, x, 0, 700));
            k.run(1);
            due("x" + x, k, x, 100 + x, 516);
            int[] before = new int[32];
            for (int n = 0; n < 32; n++) {
                before[n] = k.register(1, 0, n);
            }
            k.run(1);
            for (int n = 0; n < 32; n++) {
                int value = n == 32 - x ? 2 * (100 + x) : before[n];
                CHECK.same("x" + n + " behind x" + (32 - x), k.register(1, 0, n), value);
            }
            k.run(1);
            CHECK.same("x" + x + " stored", k.peek(1, 700), x == 16 ? 232 : 100 + x);
        }
    }

    private static PartitionKernel entered(int entry) {
        PartitionKernel k = new PartitionKernel();
        k.process(0, entry, 0, 0, 0);
        k.window(0, 1);
        return k;
    }

    private static void noWordAt(int... entries) {
        for (int entry : entries) {
            PartitionKernel k = entered(entry);
            k.begin();
            CHECK.same("PC " + entry + " counts", k.run(1), 1);
            CHECK.same("PC " + entry + " error", k.error(0, 3), 1);
            CHECK.same("PC " + entry + " is 4 more", k.state(0, 0, 1), entry + 4);
            PartitionKernel rests = entered(entry);
            rests.action(0, 1, 1);
            rests.begin();
            rests.run(1);
            CHECK.same("PC " + entry + " is where it went wrong", rests.state(0, 0, 1), entry);
        }
    }

    private static void lastPlace() {
        PartitionKernel k = entered(1020);
        k.poke(0, 1020, Asm.li(5, 5));
        k.begin();
        k.run(1);
        CHECK.same("the last word is done", k.register(0, 0, 5), 5);
        CHECK.same("no error", k.about(1), 0);
        CHECK.same("PC behind it", k.state(0, 0, 1), 1024);
        k.run(1);
        CHECK.same("none stands there", k.error(0, 3), 1);
    }

    private static void pcTurnsOver() {
        PartitionKernel k = entered(-8);
        k.poke(0, 0, Asm.li(5, 5));
        k.begin();
        k.run(2);
        CHECK.same("-8, -4, then 0", k.state(0, 0, 1), 0);
        CHECK.same("two errors", k.about(1), 2);
        k.run(1);
        CHECK.same("the word at 0 is done", k.register(0, 0, 5), 5);
        PartitionKernel greatest = entered(GREATEST - 3);
        greatest.begin();
        greatest.run(1);
        CHECK.same("from the greatest to the least", greatest.state(0, 0, 1), LEAST);
        PartitionKernel below = entered(0);
        below.poke(0, 0, Asm.jal(1, -4));
        below.begin();
        below.run(1);
        CHECK.same("below 0", below.state(0, 0, 1), -4);
        below.run(1);
        CHECK.same("and 0 again", below.state(0, 0, 1), 0);
    }

    private static void wrongChangesNothing() {
        int[] none = {0, -1, 115 | 128, Asm.immediate(103, 1, 3, 1, 0), Asm.branch(2, 1, 1, 64), Asm.load(3, 3, 1, 3),
            Asm.store(3, 2, 1, 3), Asm.immediate(19, 1, 3, 1, 32), Asm.registers(1, 0, 3, 1, 2)};
        for (int word : none) {
            leavesAll(word, 0);
        }
        int[] atNoPlace = {Asm.load(1, 3, 1, 0), Asm.load(2, 3, 1, 0), Asm.load(0, 3, 1, 3), Asm.store(1, 2, 1, 0),
            Asm.store(2, 2, 1, 0), Asm.store(0, 2, 1, 3)};
        for (int word : atNoPlace) {
            leavesAll(word, 1);
        }
    }

    private static void leavesAll(int word, int kind) {
        PartitionKernel before = machine(word, 1021, 0x0A0B0C0D);
        PartitionKernel k = done(word, 1021, 0x0A0B0C0D);
        wrong("word " + word, k, kind);
        CHECK.same("x1", k.register(1, 0, 1), 1021);
        CHECK.same("x2", k.register(1, 0, 2), 0x0A0B0C0D);
        for (int place = 0; place < 1024; place += 4) {
            CHECK.same("MEMORY at " + place, k.peek(1, place), before.peek(1, place));
        }
    }

    private static void rdIsSetLast() {
        due("jal", done(Asm.jal(3, 64), 0, 0), 3, 516, 576);
        due("jalr, rd is r", done(Asm.jalr(1, 1, 4), 64, 0), 1, 516, 68);
        due("load, rd is r", done(Asm.load(2, 1, 1, 0), 1020, 0x0BADCAFE), 1, 0x0BADCAFE, 516);
        due("addi, rd is r", done(Asm.addi(1, 1, 1), 41, 0), 1, 42, 516);
        due("add, rd is r and s", done(Asm.registers(0, 0, 1, 1, 1), 41, 0), 1, 82, 516);
        due("sub, rd is s", done(Asm.registers(32, 0, 2, 1, 2), 41, 1), 2, 40, 516);
    }

    private static void programChangesItself() {
        PartitionKernel k = machine(Asm.store(2, 2, 0, 516), 0, Asm.li(5, 55));
        k.run(2);
        due("the stored word is done", k, 5, 55, 520);
    }

    private InstructionsTest() {
    }
}
