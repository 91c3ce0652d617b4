/** Promise 2: words of parts. */
public final class WordTest {
    private static final int BELOW = Integer.MIN_VALUE;
    private static final int ABOVE = Integer.MAX_VALUE;

    public static void main(String[] args) {
        eachKind();
        noSuchKind();
        wrongRegisters();
        shortRegisters();
        wrongImmediates();
        edges();
        Check.end();
    }

    private static void word(int kind, int d, int a, int b, int i, long want) {
        Check.due("word(" + kind + ", " + d + ", " + a + ", " + b + ", " + i + ")", Check.word(kind, d, a, b, i), want);
    }

    /** Parts that a kind does not have are not looked at, so they may be anything. */
    private static void eachKind() {
        for (Samples.Sample s : Samples.ROWS) {
            for (int other : new int[] {0, -1, 5, BELOW, ABOVE}) {
                word(s.kind, s.partOr(0, other), s.partOr(1, other), s.partOr(2, other), s.partOr(3, other), s.word);
            }
        }
    }

    /** The kind is looked at ahead of the parts. */
    private static void noSuchKind() {
        for (int kind : new int[] {-1, 75, 76, BELOW, ABOVE}) {
            word(kind, 0, 0, 0, 0, Check.INDEX);
            word(kind, -1, 99, 99, ABOVE, Check.INDEX);
        }
    }

    private static void wrongRegisters() {
        for (Samples.Sample s : Samples.ROWS) {
            for (int what = 0; what < 3; what++) {
                for (int register : new int[] {-1, 32, 33, 64, BELOW, ABOVE}) {
                    int[] p = {s.partOr(0, 0), s.partOr(1, 0), s.partOr(2, 0), s.partOr(3, 0)};
                    p[what] = register;
                    word(s.kind, p[0], p[1], p[2], p[3], s.has(what) ? Check.ARGUMENT : s.word);
                }
            }
        }
    }

    /** Which registers each register part may be, over all 32. */
    private static void shortRegisters() {
        for (Samples.Sample s : Samples.ROWS) {
            for (int what = 0; what < 3; what++) {
                for (int register = 0; register < 32; register++) {
                    int[] p = {s.partOr(0, 0), s.partOr(1, 0), s.partOr(2, 0), s.partOr(3, 0)};
                    p[what] = register;
                    long got = Check.word(s.kind, p[0], p[1], p[2], p[3]);
                    boolean may = !s.has(what) || mayBe(s, what, register);
                    Check.due(s.name + " with part " + what + " " + register + " throws", got == Check.ARGUMENT ? 1 : 0, may ? 0 : 1);
                }
            }
        }
    }

    private static boolean mayBe(Samples.Sample s, int what, int register) {
        if (s.isLong()) {
            return true;
        }
        switch (s.name) {
            case "c.addi4spn": case "c.lw": case "c.sw": case "c.srli": case "c.srai": case "c.andi":
            case "c.sub": case "c.xor": case "c.or": case "c.and": case "c.beqz": case "c.bnez":
                return register >= 8 && register <= 15;
            case "c.swsp":
                return true;
            case "c.lui":
                return register != 0 && register != 2;
            default:
                return register != 0;
        }
    }

    private static void wrongImmediates() {
        for (Samples.Sample s : Samples.ROWS) {
            if (s.has(3)) {
                for (int i : new int[] {BELOW, ABOVE, 1 << 21, -(1 << 21), BELOW + 16}) {
                    word(s.kind, s.partOr(0, 0), s.partOr(1, 0), s.partOr(2, 0), i, Check.ARGUMENT);
                }
            }
        }
    }

    private static void edges() {
        word(2, 1, 0, 0, -1048576, 0x800000ef);
        word(2, 0, 0, 0, 1048574, 0x7ffff06f);
        word(2, 10, 0, 0, 0x1234, 0x2340156f);
        word(2, 0, 0, 0, 1048576, Check.ARGUMENT);
        word(2, 0, 0, 0, 1, Check.ARGUMENT);
        word(0, 0, 0, 0, -1, Check.ARGUMENT);
        word(24, 1, 1, 0, 32, Check.ARGUMENT);
        word(24, 1, 1, 0, -1, Check.ARGUMENT);
        word(48, 8, 0, 0, 2, Check.ARGUMENT);
        word(48, 8, 0, 0, 1024, Check.ARGUMENT);
        word(52, 5, 0, 0, 0, Check.ARGUMENT);
        word(54, 5, 0, 0, 0, 0x4281);
        word(55, 0, 0, 0, 0, Check.ARGUMENT);
        word(55, 0, 0, 0, 8, Check.ARGUMENT);
        word(56, 5, 0, 0, 0, Check.ARGUMENT);
        word(56, 5, 0, 0, -1, Check.ARGUMENT);
        word(56, 5, 0, 0, 32, Check.ARGUMENT);
        word(56, 5, 0, 0, 1048543, Check.ARGUMENT);
        word(56, 5, 0, 0, 1048577, Check.ARGUMENT);
        word(56, 5, 0, 0, 31, 0x62fd);
        word(57, 8, 0, 0, 0, Check.ARGUMENT);
        word(58, 8, 0, 0, 0, Check.ARGUMENT);
        word(59, 8, 0, 0, 0, 0x8801);
        word(67, 8, 0, 0, 0, Check.ARGUMENT);
        word(67, 8, 0, 0, 32, Check.ARGUMENT);
        word(68, 0, 0, 0, 0, Check.ARGUMENT);
        word(74, 0, 0, 0, 0, 0xc002);
    }
}
