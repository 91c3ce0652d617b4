/** Promise 10: the TEXT of a word at a place. */
public final class TellTest {
    private static final String[] REGISTERS = {
        "zero", "ra", "sp", "gp", "tp", "t0", "t1", "t2", "s0", "s1", "a0", "a1", "a2", "a3", "a4", "a5",
        "a6", "a7", "s2", "s3", "s4", "s5", "s6", "s7", "s8", "s9", "s10", "s11", "t3", "t4", "t5", "t6",
    };

    public static void main(String[] args) {
        for (Samples.Sample s : Samples.ROWS) {
            text(s.word, Samples.PLACE, s.text);
            if (!s.isLong()) {
                text(s.word | 0xfedc0000, Samples.PLACE, s.text);
            }
        }
        registers();
        decimals();
        places();
        illegal();
        outIsReplaced();
        Check.end();
    }

    private static void text(int word, int place, String want) {
        Check.due("the text of 0x" + Integer.toHexString(word) + " at " + place, Check.text(word, place), want);
    }

    private static void registers() {
        for (int r = 0; r < 32; r++) {
            int s = 31 - r;
            text(0x33 | r << 7 | s << 15 | r << 20, 0, "add " + REGISTERS[r] + ", " + REGISTERS[s] + ", " + REGISTERS[r]);
            text(0xc002 | r << 2, 0, "c.swsp " + REGISTERS[r] + ", 0(sp)");
        }
    }

    private static void decimals() {
        for (int i = -2048; i < 2048; i++) {
            text(0x13 | i << 20, 0, "addi zero, zero, " + i);
            text(0x03 | i << 20, 0, "lb zero, " + i + "(zero)");
        }
        text(0x00015093, 0, "srli ra, sp, 0");
    }

    private static void places() {
        text(0x0000006f, 0, "jal zero, 0x0");
        text(0x0000006f, -1, "jal zero, 0xffffffff");
        text(0x0000006f, Integer.MIN_VALUE, "jal zero, 0x80000000");
        text(0x0000006f, 0x0abcdef0, "jal zero, 0xabcdef0");
        text(0x800000ef, 0, "jal ra, 0xfff00000");
        text(0x7ffff06f, 0x7fffffff, "jal zero, 0x800ffffd");
        text(0x80029063, 0x1000, "bne t0, zero, 0x0");
        text(0x7eb50fe3, -4094, "beq a0, a1, 0x0");
        text(0xa001, -2, "c.j 0xfffffffe");
        text(0xffffff97, 0x1234, "auipc t6, 0xfffff");
        text(0x00000037, 0x1234, "lui zero, 0x0");
        text(0x62fd, 0x1234, "c.lui t0, 0x1f");
    }

    private static void illegal() {
        text(0xffffffff, 5, ".word 0xffffffff");
        text(0x0000007f, 5, ".word 0x7f");
        text(0x0badcaff, 5, ".word 0xbadcaff");
        text(0, 5, ".half 0x0");
        text(0xffff0000, 5, ".half 0x0");
        text(0x1234fffe, 5, ".half 0xfffe");
        text(0x00000004, 5, ".half 0x4");
    }

    private static void outIsReplaced() {
        CodeWords x = new CodeWords();
        x.tell(0x009440e3, 0x1000);
        int length = x.tell(1, 0);
        Check.due("the length of c.nop", length, 5);
        Check.due("OUT behind a longer text", Check.out(x, length), "c.nop");
        x.kind(0x12345537);
        x.named(0, 0);
        Check.answer(() -> x.part(0, 0));
        Check.due("OUT behind other calls", Check.out(x, length), "c.nop");
    }
}
