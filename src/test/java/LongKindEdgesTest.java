/** Terms, LONG kinds: the ends of their immediates, and the words just beside them. */
public final class LongKindEdgesTest {
    public static void main(String[] args) {
        upper();
        jump();
        jalr();
        immediates();
        loads();
        branches();
        stores();
        shifts();
        threeRegisters();
        withoutParts();
        otherOpcodes();
        zeroMayBe();
        Check.end();
    }

    private static void upper() {
        Check.sentence("U, i 0 .. 2^20 - 1 in bits 12 .. 31");
        Ends.of(0, 10, 0, 0).least(0, 0x00000537).greatest(1048575, 0xfffff537).hold();
        Ends.of(1, 10, 0, 0).least(0, 0x00000517).greatest(1048575, 0xfffff517).hold();
    }

    private static void jump() {
        Check.sentence("J, i even, -2^20 .. 2^20 - 2");
        Ends.of(2, 10, 0, 0).least(-1048576, 0x8000056f).greatest(1048574, 0x7ffff56f).step(2).hold();
        Edges.word(2, 10, 0, 0, -1, Check.ARGUMENT);
        Edges.word(2, 10, 0, 0, 0, 0x0000056f);
        Edges.word(2, 10, 0, 0, 1, Check.ARGUMENT);
    }

    private static void jalr() {
        Check.sentence("I, i -2048 .. 2047: 3 jalr 67 F3 0");
        Ends.of(3, 10, 11, 0).least(-2048, 0x80058567).greatest(2047, 0x7ff58567).hold();
        for (int f3 = 1; f3 < 8; f3++) {
            Edges.illegal(0x80058567 | f3 << 12);
        }
    }

    private static void immediates() {
        Check.sentence("I, i -2048 .. 2047: opcode 13");
        Ends.of(18, 10, 11, 0).least(-2048, 0x80058513).greatest(2047, 0x7ff58513).hold();
        Ends.of(19, 10, 11, 0).least(-2048, 0x8005a513).greatest(2047, 0x7ff5a513).hold();
        Ends.of(20, 10, 11, 0).least(-2048, 0x8005b513).greatest(2047, 0x7ff5b513).hold();
        Ends.of(21, 10, 11, 0).least(-2048, 0x8005c513).greatest(2047, 0x7ff5c513).hold();
        Ends.of(22, 10, 11, 0).least(-2048, 0x8005e513).greatest(2047, 0x7ff5e513).hold();
        Ends.of(23, 10, 11, 0).least(-2048, 0x8005f513).greatest(2047, 0x7ff5f513).hold();
    }

    private static void loads() {
        Check.sentence("I, i -2048 .. 2047: opcode 03: F3 0, 1, 2, 4, 5");
        Ends.of(10, 10, 11, 0).least(-2048, 0x80058503).greatest(2047, 0x7ff58503).hold();
        Ends.of(11, 10, 11, 0).least(-2048, 0x80059503).greatest(2047, 0x7ff59503).hold();
        Ends.of(12, 10, 11, 0).least(-2048, 0x8005a503).greatest(2047, 0x7ff5a503).hold();
        Ends.of(13, 10, 11, 0).least(-2048, 0x8005c503).greatest(2047, 0x7ff5c503).hold();
        Ends.of(14, 10, 11, 0).least(-2048, 0x8005d503).greatest(2047, 0x7ff5d503).hold();
        Edges.illegal(0x8005b503, 0x8005e503, 0x8005f503);
    }

    private static void branches() {
        Check.sentence("B, i even, -4096 .. 4094: F3 0, 1, 4 .. 7");
        Ends.of(4, 0, 11, 12).least(-4096, 0x80c58063).greatest(4094, 0x7ec58fe3).step(2).hold();
        Ends.of(5, 0, 11, 12).least(-4096, 0x80c59063).greatest(4094, 0x7ec59fe3).step(2).hold();
        Ends.of(6, 0, 11, 12).least(-4096, 0x80c5c063).greatest(4094, 0x7ec5cfe3).step(2).hold();
        Ends.of(7, 0, 11, 12).least(-4096, 0x80c5d063).greatest(4094, 0x7ec5dfe3).step(2).hold();
        Ends.of(8, 0, 11, 12).least(-4096, 0x80c5e063).greatest(4094, 0x7ec5efe3).step(2).hold();
        Ends.of(9, 0, 11, 12).least(-4096, 0x80c5f063).greatest(4094, 0x7ec5ffe3).step(2).hold();
        Edges.illegal(0x80c5a063, 0x7ec5bfe3);
    }

    private static void stores() {
        Check.sentence("S, i -2048 .. 2047: F3 0, 1, 2");
        Ends.of(15, 0, 11, 12).least(-2048, 0x80c58023).greatest(2047, 0x7ec58fa3).hold();
        Ends.of(16, 0, 11, 12).least(-2048, 0x80c59023).greatest(2047, 0x7ec59fa3).hold();
        Ends.of(17, 0, 11, 12).least(-2048, 0x80c5a023).greatest(2047, 0x7ec5afa3).hold();
        for (int f3 = 3; f3 < 8; f3++) {
            Edges.illegal(0x80c58023 | f3 << 12);
        }
    }

    private static void shifts() {
        Check.sentence("H, i 0 .. 31 in bits 20 .. 24, F7 0, of srai 32");
        Ends.of(24, 10, 11, 0).least(0, 0x00059513).greatest(31, 0x01f59513).hold();
        Ends.of(25, 10, 11, 0).least(0, 0x0005d513).greatest(31, 0x01f5d513).hold();
        Ends.of(26, 10, 11, 0).least(0, 0x4005d513).greatest(31, 0x41f5d513).hold();
        for (int f7 = 1; f7 < 128; f7++) {
            Edges.illegal(0x00059513 | f7 << 25);
            if (f7 != 32) {
                Edges.illegal(0x0005d513 | f7 << 25);
            }
        }
    }

    private static void threeRegisters() {
        Check.sentence("R, F7 0 but where told (32 of sub and sra, 1 of mul .. remu)");
        int[] kinds = {27, 29, 30, 31, 32, 33, 35, 36};
        for (int f3 = 0; f3 < 8; f3++) {
            int word = 0x00c58533 | f3 << 12;
            Edges.word(kinds[f3], 10, 11, 12, 0, word);
            Edges.kind(word, kinds[f3]);
            Edges.word(37 + f3, 10, 11, 12, 0, word | 1 << 25);
            Edges.kind(word | 1 << 25, 37 + f3);
            for (int f7 = 2; f7 < 128; f7++) {
                if (f7 != 32 || f3 != 0 && f3 != 5) {
                    Edges.illegal(word | f7 << 25);
                }
            }
        }
        Edges.word(28, 10, 11, 12, 0, 0x40c58533);
        Edges.kind(0x40c58533, 28);
        Edges.word(34, 10, 11, 12, 0, 0x40c5d533);
        Edges.kind(0x40c5d533, 34);
    }

    private static void withoutParts() {
        Check.sentence("Without parts, these words alone");
        int[] words = {0x0ff0000f, 0x00000073, 0x00100073};
        for (int n = 0; n < words.length; n++) {
            Edges.word(45 + n, 0, 0, 0, 0, words[n]);
            Edges.kind(words[n], 45 + n);
            for (int bit = 7; bit < 32; bit++) {
                int beside = words[n] ^ 1 << bit;
                if (beside != 0x00000073 && beside != 0x00100073) {
                    Edges.illegal(beside);
                }
            }
        }
    }

    private static void zeroMayBe() {
        Check.sentence("0 lies between the ends of each LONG kind's immediates");
        for (Samples.Sample s : Samples.ROWS) {
            if (s.isLong() && s.has(3)) {
                long word = Check.word(s.kind, s.partOr(0, 0), s.partOr(1, 0), s.partOr(2, 0), 0);
                Edges.may(s.kind, 0, true);
                Edges.fit(s.word, 0, word);
                Edges.kind((int) word, s.kind);
                Edges.part((int) word, 3, 0);
            }
        }
    }

    private static void otherOpcodes() {
        Check.sentence("a word that is of no kind is ILLEGAL");
        int[] opcodes = {0x03, 0x0f, 0x13, 0x17, 0x23, 0x33, 0x37, 0x63, 0x67, 0x6f, 0x73};
        for (int opcode = 3; opcode < 128; opcode += 4) {
            boolean known = false;
            for (int one : opcodes) {
                known |= one == opcode;
            }
            if (!known) {
                Edges.illegal(opcode, 0x00c58500 | opcode, 0xffffff80 | opcode);
            }
        }
    }
}
