/** A word of each kind with what is due for it, the words as an assembler of this machine makes them. */
final class Samples {
    /** Stands for a part that a kind does not have. */
    static final int NO = Integer.MIN_VALUE;

    /** The place at which the texts stand. */
    static final int PLACE = 0x1000;

    static final class Sample {
        final int kind;
        final String name;
        final int pattern;
        final int word;
        final int[] parts;
        final String text;
        final int longWord;

        Sample(int kind, String name, int pattern, int word, int d, int a, int b, int i, String text, int longWord) {
            this.kind = kind;
            this.name = name;
            this.pattern = pattern;
            this.word = word;
            this.parts = new int[] {d, a, b, i};
            this.text = text;
            this.longWord = longWord;
        }

        boolean has(int what) {
            return parts[what] != NO;
        }

        boolean isLong() {
            return kind < FIRST_SHORT_KIND;
        }

        /** A part, or another number where the kind has none. */
        int partOr(int what, int other) {
            return has(what) ? parts[what] : other;
        }
    }

    static final int FIRST_SHORT_KIND = 48;

    static final Sample[] ROWS = {
        new Sample(0, "lui", 6, 0x12345537, 10, NO, NO, 74565, "lui a0, 0x12345", 0),
        new Sample(1, "auipc", 6, 0xffffff97, 31, NO, NO, 1048575, "auipc t6, 0xfffff", 0),
        new Sample(2, "jal", 7, 0xfffff4ef, 9, NO, NO, -2, "jal s1, 0xffe", 0),
        new Sample(3, "jalr", 3, 0x800d80e7, 1, 27, NO, -2048, "jalr ra, -2048(s11)", 0),
        new Sample(4, "beq", 5, 0x7eb50fe3, NO, 10, 11, 4094, "beq a0, a1, 0x1ffe", 0),
        new Sample(5, "bne", 5, 0x80029063, NO, 5, 0, -4096, "bne t0, zero, 0x0", 0),
        new Sample(6, "blt", 5, 0x009440e3, NO, 8, 9, 2048, "blt s0, s1, 0x1800", 0),
        new Sample(7, "bge", 5, 0xff07dfe3, NO, 15, 16, -2, "bge a5, a6, 0xffe", 0),
        new Sample(8, "bltu", 5, 0x03de6063, NO, 28, 29, 32, "bltu t3, t4, 0x1020", 0),
        new Sample(9, "bgeu", 5, 0x01f07863, NO, 0, 31, 16, "bgeu zero, t6, 0x1010", 0),
        new Sample(10, "lb", 3, 0x7ff10503, 10, 2, NO, 2047, "lb a0, 2047(sp)", 0),
        new Sample(11, "lh", 3, 0xfff19583, 11, 3, NO, -1, "lh a1, -1(gp)", 0),
        new Sample(12, "lw", 3, 0x00022603, 12, 4, NO, 0, "lw a2, 0(tp)", 0),
        new Sample(13, "lbu", 3, 0x0042c683, 13, 5, NO, 4, "lbu a3, 4(t0)", 0),
        new Sample(14, "lhu", 3, 0x80035703, 14, 6, NO, -2048, "lhu a4, -2048(t1)", 0),
        new Sample(15, "sb", 4, 0x7ef38fa3, NO, 7, 15, 2047, "sb a5, 2047(t2)", 0),
        new Sample(16, "sh", 4, 0x81041023, NO, 8, 16, -2048, "sh a6, -2048(s0)", 0),
        new Sample(17, "sw", 4, 0x0314a0a3, NO, 9, 17, 33, "sw a7, 33(s1)", 0),
        new Sample(18, "addi", 2, 0xfff98913, 18, 19, NO, -1, "addi s2, s3, -1", 0),
        new Sample(19, "slti", 2, 0x7ffaaa13, 20, 21, NO, 2047, "slti s4, s5, 2047", 0),
        new Sample(20, "sltiu", 2, 0x800bbb13, 22, 23, NO, -2048, "sltiu s6, s7, -2048", 0),
        new Sample(21, "xori", 2, 0x005ccc13, 24, 25, NO, 5, "xori s8, s9, 5", 0),
        new Sample(22, "ori", 2, 0x006ded13, 26, 27, NO, 6, "ori s10, s11, 6", 0),
        new Sample(23, "andi", 2, 0x007efe13, 28, 29, NO, 7, "andi t3, t4, 7", 0),
        new Sample(24, "slli", 2, 0x01ff9f13, 30, 31, NO, 31, "slli t5, t6, 31", 0),
        new Sample(25, "srli", 2, 0x00015093, 1, 2, NO, 0, "srli ra, sp, 0", 0),
        new Sample(26, "srai", 2, 0x41125193, 3, 4, NO, 17, "srai gp, tp, 17", 0),
        new Sample(27, "add", 1, 0x00c58533, 10, 11, 12, NO, "add a0, a1, a2", 0),
        new Sample(28, "sub", 1, 0x407302b3, 5, 6, 7, NO, "sub t0, t1, t2", 0),
        new Sample(29, "sll", 1, 0x00a49433, 8, 9, 10, NO, "sll s0, s1, a0", 0),
        new Sample(30, "slt", 1, 0x00f726b3, 13, 14, 15, NO, "slt a3, a4, a5", 0),
        new Sample(31, "sltu", 1, 0x0128b833, 16, 17, 18, NO, "sltu a6, a7, s2", 0),
        new Sample(32, "xor", 1, 0x015a49b3, 19, 20, 21, NO, "xor s3, s4, s5", 0),
        new Sample(33, "srl", 1, 0x018bdb33, 22, 23, 24, NO, "srl s6, s7, s8", 0),
        new Sample(34, "sra", 1, 0x41bd5cb3, 25, 26, 27, NO, "sra s9, s10, s11", 0),
        new Sample(35, "or", 1, 0x01eeee33, 28, 29, 30, NO, "or t3, t4, t5", 0),
        new Sample(36, "and", 1, 0x00107fb3, 31, 0, 1, NO, "and t6, zero, ra", 0),
        new Sample(37, "mul", 1, 0x02418133, 2, 3, 4, NO, "mul sp, gp, tp", 0),
        new Sample(38, "mulh", 1, 0x027312b3, 5, 6, 7, NO, "mulh t0, t1, t2", 0),
        new Sample(39, "mulhsu", 1, 0x02c5a533, 10, 11, 12, NO, "mulhsu a0, a1, a2", 0),
        new Sample(40, "mulhu", 1, 0x02f736b3, 13, 14, 15, NO, "mulhu a3, a4, a5", 0),
        new Sample(41, "div", 1, 0x0349c933, 18, 19, 20, NO, "div s2, s3, s4", 0),
        new Sample(42, "divu", 1, 0x037b5ab3, 21, 22, 23, NO, "divu s5, s6, s7", 0),
        new Sample(43, "rem", 1, 0x03acec33, 24, 25, 26, NO, "rem s8, s9, s10", 0),
        new Sample(44, "remu", 1, 0x03de7db3, 27, 28, 29, NO, "remu s11, t3, t4", 0),
        new Sample(45, "fence", 0, 0x0ff0000f, NO, NO, NO, NO, "fence", 0),
        new Sample(46, "ecall", 0, 0x00000073, NO, NO, NO, NO, "ecall", 0),
        new Sample(47, "ebreak", 0, 0x00100073, NO, NO, NO, NO, "ebreak", 0),
        new Sample(48, "c.addi4spn", 15, 0x1ffc, 15, NO, NO, 1020, "c.addi4spn a5, sp, 1020", 0x3fc10793),
        new Sample(49, "c.lw", 3, 0x5fe0, 8, 15, NO, 124, "c.lw s0, 124(a5)", 0x07c7a403),
        new Sample(50, "c.sw", 4, 0xc124, NO, 10, 9, 64, "c.sw s1, 64(a0)", 0x04952023),
        new Sample(51, "c.nop", 0, 0x0001, NO, NO, NO, NO, "c.nop", 0x00000013),
        new Sample(52, "c.addi", 12, 0x1f81, 31, NO, NO, -32, "c.addi t6, -32", 0xfe0f8f93),
        new Sample(53, "c.jal", 8, 0x3001, NO, NO, NO, -2048, "c.jal 0x800", 0x801ff0ef),
        new Sample(54, "c.li", 12, 0x40fd, 1, NO, NO, 31, "c.li ra, 31", 0x01f00093),
        new Sample(55, "c.addi16sp", 16, 0x617d, NO, NO, NO, 496, "c.addi16sp sp, 496", 0x1f010113),
        new Sample(56, "c.lui", 6, 0x7501, 10, NO, NO, 1048544, "c.lui a0, 0xfffe0", 0xfffe0537),
        new Sample(57, "c.srli", 12, 0x807d, 8, NO, NO, 31, "c.srli s0, 31", 0x01f45413),
        new Sample(58, "c.srai", 12, 0x8785, 15, NO, NO, 1, "c.srai a5, 1", 0x4017d793),
        new Sample(59, "c.andi", 12, 0x9901, 10, NO, NO, -32, "c.andi a0, -32", 0xfe057513),
        new Sample(60, "c.sub", 10, 0x8c1d, 8, NO, 15, NO, "c.sub s0, a5", 0x40f40433),
        new Sample(61, "c.xor", 10, 0x8cb9, 9, NO, 14, NO, "c.xor s1, a4", 0x00e4c4b3),
        new Sample(62, "c.or", 10, 0x8d55, 10, NO, 13, NO, "c.or a0, a3", 0x00d56533),
        new Sample(63, "c.and", 10, 0x8df1, 11, NO, 12, NO, "c.and a1, a2", 0x00c5f5b3),
        new Sample(64, "c.j", 8, 0xaffd, NO, NO, NO, 2046, "c.j 0x17fe", 0x7fe0006f),
        new Sample(65, "c.beqz", 9, 0xd101, NO, 10, NO, -256, "c.beqz a0, 0xf00", 0xf00500e3),
        new Sample(66, "c.bnez", 9, 0xecfd, NO, 9, NO, 254, "c.bnez s1, 0x10fe", 0x0e049f63),
        new Sample(67, "c.slli", 12, 0x0ffe, 31, NO, NO, 31, "c.slli t6, 31", 0x01ff9f93),
        new Sample(68, "c.lwsp", 13, 0x50fe, 1, NO, NO, 252, "c.lwsp ra, 252(sp)", 0x0fc12083),
        new Sample(69, "c.jr", 11, 0x8082, NO, 1, NO, NO, "c.jr ra", 0x00008067),
        new Sample(70, "c.mv", 10, 0x857e, 10, NO, 31, NO, "c.mv a0, t6", 0x01f00533),
        new Sample(71, "c.ebreak", 0, 0x9002, NO, NO, NO, NO, "c.ebreak", 0x00100073),
        new Sample(72, "c.jalr", 11, 0x9282, NO, 5, NO, NO, "c.jalr t0", 0x000280e7),
        new Sample(73, "c.add", 10, 0x910e, 2, NO, 3, NO, "c.add sp, gp", 0x00310133),
        new Sample(74, "c.swsp", 14, 0xdf82, NO, NO, 0, 252, "c.swsp zero, 252(sp)", 0x0e012e23),
    };

    private Samples() {
    }
}
