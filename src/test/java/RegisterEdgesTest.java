/** Terms, registers: the least and the greatest of each register part of each kind, and what is beside them. */
public final class RegisterEdgesTest {
    private static final int D = 0;
    private static final int A = 1;
    private static final int B = 2;
    private static final int C_LUI = 56;

    public static void main(String[] args) {
        longRegisters();
        shortRegisters();
        notZero();
        notTwoEither();
        alsoZero();
        wordsWithARegisterThatMayNotBe();
        Check.end();
    }

    /** The word of a kind's sample with another register as one part. */
    private static long with(int kind, int what, int register) {
        Samples.Sample s = Samples.ROWS[kind];
        int[] p = {s.partOr(D, 0), s.partOr(A, 0), s.partOr(B, 0), s.partOr(3, 0)};
        p[what] = register;
        return Check.word(kind, p[0], p[1], p[2], p[3]);
    }

    private static void may(int kind, int what, int register, int place, int field, int bits) {
        int mask = (1 << bits) - 1 << place;
        int word = Samples.ROWS[kind].word & ~mask | field << place;
        Check.due(told(kind, what, register), with(kind, what, register), word);
        Edges.kind(word, kind);
        Edges.part(word, what, register);
    }

    private static void mayNot(int kind, int what, int... registers) {
        for (int register : registers) {
            Check.due(told(kind, what, register), with(kind, what, register), Check.ARGUMENT);
        }
    }

    private static String told(int kind, int what, int register) {
        return "word of " + Samples.ROWS[kind].name + " with " + register + " as its " + "dab".charAt(what);
    }

    private static void longRegisters() {
        Check.sentence("REGISTERS 0 .. 31; d lies in bits 7 .. 11, a in 15 .. 19, b in 20 .. 24");
        int[] places = {7, 15, 20};
        for (int kind = 0; kind < Samples.FIRST_SHORT_KIND; kind++) {
            for (int what = D; what <= B; what++) {
                if (Samples.ROWS[kind].has(what)) {
                    for (int register = 0; register <= 31; register++) {
                        may(kind, what, register, places[what], register, 5);
                    }
                    mayNot(kind, what, -1, 32, -32, 63, 64, Edges.LEAST_INT, Edges.GREATEST_INT);
                }
            }
        }
    }

    private static void narrow(int kind, int what, int place) {
        for (int register = 8; register <= 15; register++) {
            may(kind, what, register, place, register - 8, 3);
        }
        mayNot(kind, what, 7, 16, 0, -1, 31, 32, 40, Edges.LEAST_INT, Edges.GREATEST_INT);
    }

    private static void shortRegisters() {
        Check.sentence("SHORT registers are 8 .. 15; d', a', b' are short registers less 8, three bits");
        narrow(48, D, 2);
        narrow(49, D, 2);
        narrow(49, A, 7);
        narrow(50, B, 2);
        narrow(50, A, 7);
        for (int kind = 57; kind <= 63; kind++) {
            narrow(kind, D, 7);
        }
        for (int kind = 60; kind <= 63; kind++) {
            narrow(kind, B, 2);
        }
        narrow(65, A, 7);
        narrow(66, A, 7);
    }

    private static void wide(int kind, int what, int place) {
        for (int register = 1; register <= 31; register++) {
            if (kind != C_LUI || register != 2) {
                may(kind, what, register, place, register, 5);
            }
        }
        mayNot(kind, what, 0, -1, 32, 33, Edges.LEAST_INT, Edges.GREATEST_INT);
    }

    private static void notZero() {
        Check.sentence("d, a, b five bits, not 0 but where told");
        wide(52, D, 7);
        wide(54, D, 7);
        wide(C_LUI, D, 7);
        wide(67, D, 7);
        wide(68, D, 7);
        wide(69, A, 7);
        wide(70, D, 7);
        wide(70, B, 2);
        wide(72, A, 7);
        wide(73, D, 7);
        wide(73, B, 2);
    }

    private static void notTwoEither() {
        Check.sentence("56 c.lui: d not 2 either");
        mayNot(C_LUI, D, 2);
        may(C_LUI, D, 1, 7, 1, 5);
        may(C_LUI, D, 3, 7, 3, 5);
        // with 2 there it is c.addi16sp, or nothing without an immediate
        Edges.kind(0x6105, 55);
        Edges.kind(0x7101, 55);
        Edges.illegal(0x6101);
    }

    private static void alsoZero() {
        Check.sentence("74 c.swsp: b also 0");
        for (int register = 0; register <= 31; register++) {
            may(74, B, register, 2, register, 5);
        }
        mayNot(74, B, -1, 32, Edges.LEAST_INT, Edges.GREATEST_INT);
    }

    private static void wordsWithARegisterThatMayNotBe() {
        Check.sentence("a word is of a kind when its parts are such as may be");
        Edges.illegal(0x0005, 0x107d);          // c.addi with d 0
        Edges.illegal(0x4001, 0x507d);          // c.li with d 0
        Edges.illegal(0x6001, 0x6005, 0x707d);  // c.lui with d 0
        Edges.illegal(0x0006, 0x007e);          // c.slli with d 0
        Edges.illegal(0x4002, 0x507e);          // c.lwsp with d 0
        Edges.illegal(0x8002);                  // c.jr with a 0
        Edges.illegal(0x8006, 0x807e);          // c.mv with d 0
        Edges.illegal(0x9006, 0x907e);          // c.add with d 0
        Edges.kind(0x9002, 71);                 // c.jalr with a 0 is c.ebreak
        Edges.kind(0x8082, 69);                 // c.mv with b 0 is c.jr
        Edges.kind(0x9082, 72);                 // c.add with b 0 is c.jalr
    }
}
