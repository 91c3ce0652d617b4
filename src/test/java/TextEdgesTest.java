/** Terms, TEXTs: each PATTERN with the least and the greatest of its operands; wrapping places; ILLEGAL words. */
public final class TextEdgesTest {
    public static void main(String[] args) {
        noOperands();
        threeRegisters();
        registersAndDecimal();
        offsets();
        offsetsOfStores();
        branches();
        upper();
        jumps();
        shortJumps();
        shortBranches();
        shortRegisters();
        shortDecimals();
        stackPointer();
        registerNames();
        decimalDigits();
        eachKind();
        placesWrap();
        zerosInFront();
        illegalWords();
        Check.end();
    }

    private static void text(int word, String want) {
        Edges.text(word, 0, want);
    }

    private static void noOperands() {
        Check.sentence("0 nothing: 45 .. 47, 51, 71");
        text(0x0ff0000f, "fence");
        text(0x00000073, "ecall");
        text(0x00100073, "ebreak");
        text(0x0001, "c.nop");
        text(0x9002, "c.ebreak");
    }

    private static void threeRegisters() {
        Check.sentence("1 d, a, b: R");
        text(0x00000033, "add zero, zero, zero");
        text(0x03ffffb3, "remu t6, t6, t6");
    }

    private static void registersAndDecimal() {
        Check.sentence("2 d, a, I: I but jalr and the opcode 03; H");
        text(0x80000013, "addi zero, zero, -2048");
        text(0xffff8f93, "addi t6, t6, -1");
        text(0x0005f513, "andi a0, a1, 0");
        text(0x7ff5b513, "sltiu a0, a1, 2047");
        text(0x00059513, "slli a0, a1, 0");
        text(0x41f5d513, "srai a0, a1, 31");
    }

    private static void offsets() {
        Check.sentence("3 d, O(a): jalr, opcode 03, c.lw");
        text(0x80000067, "jalr zero, -2048(zero)");
        text(0x7fff8fe7, "jalr t6, 2047(t6)");
        text(0x80000003, "lb zero, -2048(zero)");
        text(0x7fffdf83, "lhu t6, 2047(t6)");
        text(0x4000, "c.lw s0, 0(s0)");
        text(0x5ffc, "c.lw a5, 124(a5)");
    }

    private static void offsetsOfStores() {
        Check.sentence("4 b, O(a): S, c.sw");
        text(0x80000023, "sb zero, -2048(zero)");
        text(0x7fffafa3, "sw t6, 2047(t6)");
        text(0xc000, "c.sw s0, 0(s0)");
        text(0xdffc, "c.sw a5, 124(a5)");
        text(0xc290, "c.sw a2, 0(a3)");
    }

    private static void branches() {
        Check.sentence("5 a, b, P: B");
        text(0x80000063, "beq zero, zero, 0xfffff000");
        text(0x7fffffe3, "bgeu t6, t6, 0xffe");
        text(0x00c58063, "beq a1, a2, 0x0");
    }

    private static void upper() {
        Check.sentence("6 d, X: U, c.lui; X is i (without a sign)");
        text(0x00000037, "lui zero, 0x0");
        text(0xffffff97, "auipc t6, 0xfffff");
        text(0x6085, "c.lui ra, 0x1");
        text(0x6ffd, "c.lui t6, 0x1f");
        text(0x7601, "c.lui a2, 0xfffe0");
        text(0x7ffd, "c.lui t6, 0xfffff");
        Edges.text(0x12345517, -1, "auipc a0, 0x12345");
    }

    private static void jumps() {
        Check.sentence("7 d, P: jal");
        text(0x8000006f, "jal zero, 0xfff00000");
        text(0x7fffffef, "jal t6, 0xffffe");
        text(0x0000006f, "jal zero, 0x0");
    }

    private static void shortJumps() {
        Check.sentence("8 P: c.jal, c.j");
        text(0x3001, "c.jal 0xfffff800");
        text(0x2ffd, "c.jal 0x7fe");
        text(0xb001, "c.j 0xfffff800");
        text(0xaffd, "c.j 0x7fe");
        text(0xa001, "c.j 0x0");
    }

    private static void shortBranches() {
        Check.sentence("9 a, P: c.beqz, c.bnez");
        text(0xd001, "c.beqz s0, 0xffffff00");
        text(0xcffd, "c.beqz a5, 0xfe");
        text(0xf001, "c.bnez s0, 0xffffff00");
        text(0xeffd, "c.bnez a5, 0xfe");
    }

    private static void shortRegisters() {
        Check.sentence("10 d, b: c.sub .. c.and, c.mv, c.add. 11 a: c.jr, c.jalr");
        text(0x8c1d, "c.sub s0, a5");
        text(0x8f81, "c.sub a5, s0");
        text(0x8f61, "c.and a4, s0");
        text(0x80fe, "c.mv ra, t6");
        text(0x8f86, "c.mv t6, ra");
        text(0x90fe, "c.add ra, t6");
        text(0x9f86, "c.add t6, ra");
        text(0x8082, "c.jr ra");
        text(0x8f82, "c.jr t6");
        text(0x9082, "c.jalr ra");
        text(0x9f82, "c.jalr t6");
    }

    private static void shortDecimals() {
        Check.sentence("12 d, I: c.addi, c.li, c.srli, c.srai, c.andi, c.slli");
        text(0x1081, "c.addi ra, -32");
        text(0x0ffd, "c.addi t6, 31");
        text(0x5081, "c.li ra, -32");
        text(0x4f81, "c.li t6, 0");
        text(0x8005, "c.srli s0, 1");
        text(0x83fd, "c.srli a5, 31");
        text(0x8405, "c.srai s0, 1");
        text(0x87fd, "c.srai a5, 31");
        text(0x9801, "c.andi s0, -32");
        text(0x8bfd, "c.andi a5, 31");
        text(0x0086, "c.slli ra, 1");
        text(0x0ffe, "c.slli t6, 31");
    }

    private static void stackPointer() {
        Check.sentence("13 d, O(sp): c.lwsp. 14 b, O(sp): c.swsp. 15 d, sp, I: c.addi4spn. 16 sp, I: c.addi16sp");
        text(0x4082, "c.lwsp ra, 0(sp)");
        text(0x5ffe, "c.lwsp t6, 252(sp)");
        text(0xc002, "c.swsp zero, 0(sp)");
        text(0xdffe, "c.swsp t6, 252(sp)");
        text(0x0040, "c.addi4spn s0, sp, 4");
        text(0x1ffc, "c.addi4spn a5, sp, 1020");
        text(0x7101, "c.addi16sp sp, -512");
        text(0x617d, "c.addi16sp sp, 496");
    }

    private static void registerNames() {
        Check.sentence("the names zero, ra, sp, gp, tp, t0, t1, t2, s0, s1, a0 .. a7, s2 .. s11, t3 .. t6");
        String[] names = {
            "zero", "ra", "sp", "gp", "tp", "t0", "t1", "t2", "s0", "s1",
            "a0", "a1", "a2", "a3", "a4", "a5", "a6", "a7",
            "s2", "s3", "s4", "s5", "s6", "s7", "s8", "s9", "s10", "s11", "t3", "t4", "t5", "t6",
        };
        for (int r = 0; r < 32; r++) {
            text(0x00000037 | r << 7, "lui " + names[r] + ", 0x0");
            text(0x00000067 | r << 15, "jalr zero, 0(" + names[r] + ")");
            text(0x00000023 | r << 20, "sb " + names[r] + ", 0(zero)");
        }
    }

    private static void decimalDigits() {
        Check.sentence("I is i in decimal; O(x) is i in decimal and register x in ( )");
        for (int i : new int[] {0, 1, 9, 10, 11, 99, 100, 101, 999, 1000, 1001, 1009, 1010, 1999, 2000, 2047}) {
            text(0x13 | i << 20, "addi zero, zero, " + i);
            text(0x03 | i << 20, "lb zero, " + i + "(zero)");
            if (i != 0) {
                text(0x13 | -i << 20, "addi zero, zero, -" + i);
                text(0x03 | -i << 20, "lb zero, -" + i + "(zero)");
            }
        }
    }

    private static void eachKind() {
        Check.sentence("the kind's name and, behind a blank, its operands, by the kind's PATTERN");
        for (Samples.Sample s : Samples.ROWS) {
            Edges.text(s.word, Samples.PLACE, s.text);
        }
    }

    private static void placesWrap() {
        Check.sentence("P is the place + i, wrapping, its 32 bits");
        Edges.text(0x7ffff56f, Edges.GREATEST_INT, "jal a0, 0x800ffffd");
        Edges.text(0x8000056f, Edges.LEAST_INT, "jal a0, 0x7ff00000");
        Edges.text(0x0040056f, -4, "jal a0, 0x0");
        Edges.text(0x0040056f, -5, "jal a0, 0xffffffff");
        Edges.text(0xffdff56f, 4, "jal a0, 0x0");
        Edges.text(0xffdff56f, 3, "jal a0, 0xffffffff");
        Edges.text(0x7ec58fe3, -4094, "beq a1, a2, 0x0");
        Edges.text(0x80c58063, 4095, "beq a1, a2, 0xffffffff");
        Edges.text(0x3001, 2047, "c.jal 0xffffffff");
        Edges.text(0xaffd, -2046, "c.j 0x0");
        Edges.text(0xd281, 255, "c.beqz a3, 0xffffffff");
        Edges.text(0xeefd, -254, "c.bnez a3, 0x0");
        Edges.text(0xa001, Edges.LEAST_INT, "c.j 0x80000000");
        Edges.text(0xa001, Edges.GREATEST_INT, "c.j 0x7fffffff");
        Edges.text(0xa001, -1, "c.j 0xffffffff");
    }

    private static void zerosInFront() {
        Check.sentence("0x and digits 0 .. 9, a .. f, without zeros in front (0x0)");
        String digits = "0123456789abcdef";
        for (int n = 0; n < 16; n++) {
            Edges.text(0xa001, n, "c.j 0x" + digits.charAt(n));
            Edges.text(0xa001, 16 + n, "c.j 0x1" + digits.charAt(n));
        }
        int place = 1;
        String zeros = "";
        for (int length = 1; length <= 8; length++) {
            Edges.text(0xa001, place, "c.j 0x1" + zeros);
            Edges.text(0xa001, place - 1, length == 1 ? "c.j 0x0" : "c.j 0x" + "ffffffff".substring(0, length - 1));
            place <<= 4;
            zeros += "0";
        }
    }

    private static void illegalWords() {
        Check.sentence("Of an ILLEGAL word: .word and its 32 bits, or .half and its 16, as X");
        text(0x00000007, ".word 0x7");
        text(0x0000ffff, ".word 0xffff");
        text(0x0001ffff, ".word 0x1ffff");
        text(0x80000007, ".word 0x80000007");
        text(0xffffffff, ".word 0xffffffff");
        text(0x00000000, ".half 0x0");
        text(0xffff0000, ".half 0x0");
        text(0x00000004, ".half 0x4");
        text(0x0000fffe, ".half 0xfffe");
        text(0xfffffffe, ".half 0xfffe");
        Edges.text(0, -1, ".half 0x0");
        Edges.text(-1, -1, ".word 0xffffffff");
    }
}
