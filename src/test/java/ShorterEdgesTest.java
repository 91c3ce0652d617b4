/** Promise 7, its boundary cases: the least kind, the words that do the same, and where there is none. */
public final class ShorterEdgesTest {
    private static final int[] SHORT_LOW_BITS = {0, 1, 2};

    public static void main(String[] args) {
        leastKind();
        exchanged();
        exchangedOnlyWithoutOwn();
        notExchanged();
        addiAsMove();
        addiNotAsMove();
        none();
        ofShortWords();
        ofIllegalWords();
        Check.end();
    }

    private static void leastKind() {
        Check.sentence("The short word, of the least kind, that stands for a LONG one");
        // addi sp, sp, i: c.addi (52) as far as it goes, c.addi16sp (55) beyond
        Edges.shorter(0x01010113, 0x0141);
        Edges.shorter(0xff010113, 0x1141);
        Edges.shorter(0xfe010113, 0x1101);
        Edges.shorter(0x02010113, 0x6105);
        Edges.shorter(0xfd010113, 0x7179);
        // addi s0, sp, 4: c.addi4spn
        Edges.shorter(0x00410413, 0x0040);
    }

    private static void exchanged() {
        Check.sentence("of add, xor, or, and with d as b the one with a and b exchanged");
        Edges.shorter(0x001f80b3, 0x90fe);  // add ra, t6, ra
        Edges.shorter(0x01f08fb3, 0x9f86);  // add t6, ra, t6
        Edges.shorter(0x0087c433, 0x8c3d);  // xor s0, a5, s0
        Edges.shorter(0x00f447b3, 0x8fa1);  // xor a5, s0, a5
        Edges.shorter(0x0087e433, 0x8c5d);  // or s0, a5, s0
        Edges.shorter(0x00f467b3, 0x8fc1);  // or a5, s0, a5
        Edges.shorter(0x0087f433, 0x8c7d);  // and s0, a5, s0
        Edges.shorter(0x00f477b3, 0x8fe1);  // and a5, s0, a5
    }

    private static void exchangedOnlyWithoutOwn() {
        Check.sentence("without such a one, that of a word that does the same");
        Edges.shorter(0x00800433, 0x8422);  // add s0, zero, s0: c.mv s0, s0
        Edges.shorter(0x00844433, 0x8c21);  // xor s0, s0, s0: c.xor s0, s0
    }

    private static void notExchanged() {
        Check.sentence("NONE if there is none: another kind, d not as b, registers that are not short ones");
        Edges.noShort(0x40878433, 0x00879433, 0x02878433);  // sub, sll, mul s0, a5, s0
        Edges.noShort(0x01ef80b3);                          // add ra, t6, t5
        Edges.noShort(0x007443b3, 0x01044833);              // xor t2, s0, t2; xor a6, s0, a6
        Edges.noShort(0x00884433, 0x01044433, 0x0083c433);  // xor s0, a6, s0; xor s0, s0, a6; xor s0, t2, s0
        Edges.noShort(0x00804433);                          // xor s0, zero, s0
        Edges.noShort(0x00008033, 0x00000033);              // add zero, ra, zero; add zero, zero, zero
        Edges.noShort(0x000080b3, 0x000f80b3, 0x000000b3);  // add ra, ra, zero; add ra, t6, zero; add ra, zero, zero
    }

    private static void addiAsMove() {
        Check.sentence("of addi with i 0, d and a not 0: add with a 0 and b as that a was");
        Edges.shorter(0x00008093, 0x8086);  // addi ra, ra, 0
        Edges.shorter(0x000f8093, 0x80fe);  // addi ra, t6, 0
        Edges.shorter(0x00008f93, 0x8f86);  // addi t6, ra, 0
        Edges.shorter(0x000f8f93, 0x8ffe);  // addi t6, t6, 0
        Edges.shorter(0x00010413, 0x840a);  // addi s0, sp, 0
        Edges.shorter(0x00010793, 0x878a);  // addi a5, sp, 0
        Edges.shorter(0x00010113, 0x810a);  // addi sp, sp, 0
        Edges.shorter(0x00060613, 0x8632);  // addi a2, a2, 0
    }

    private static void addiNotAsMove() {
        Check.sentence("of addi with i 0, d and a not 0");
        Edges.noShort(0x00008013, 0x000f8013);              // addi zero, ra, 0; addi zero, t6, 0
        Edges.shorter(0x00000093, 0x4081);                  // addi ra, zero, 0: c.li
        Edges.shorter(0x00000013, 0x0001);                  // addi zero, zero, 0: c.nop
        Edges.noShort(0x001f8093, 0xffff8093);              // addi ra, t6, 1 and -1
        Edges.noShort(0x000fc093);                          // xori ra, t6, 0
    }

    private static void none() {
        Check.sentence("NONE if there is none");
        for (Samples.Sample s : Samples.ROWS) {
            switch (s.name) {
                case "auipc": case "blt": case "bge": case "bltu": case "bgeu": case "lb": case "lh": case "lbu": case "lhu":
                case "sb": case "sh": case "slti": case "sltiu": case "xori": case "ori": case "sll": case "slt": case "sltu":
                case "srl": case "sra": case "mul": case "mulh": case "mulhsu": case "mulhu": case "div": case "divu":
                case "rem": case "remu": case "fence": case "ecall":
                    Edges.noShort(s.word);
                    break;
                default:
                    break;
            }
        }
        // beq zero, a3 and bne zero, a3, which are not exchanged
        Edges.noShort(0x00d00063, 0x00d01063);
    }

    private static void ofShortWords() {
        Check.sentence("NONE if the word is SHORT");
        for (Samples.Sample s : Samples.ROWS) {
            if (!s.isLong()) {
                Edges.shorter(s.word, CodeWords.NONE);
                Edges.shorter(s.word | 0xffff0000, CodeWords.NONE);
            }
        }
        // the bits of long words that have short ones, but for the lowest two
        for (int word : new int[] {0x00000013, 0x00058513, 0x00a58533, 0x00008067, 0x00100073}) {
            for (int low : SHORT_LOW_BITS) {
                Edges.shorter(word & ~3 | low, CodeWords.NONE);
            }
        }
    }

    private static void ofIllegalWords() {
        Check.sentence("NONE if the word is ILLEGAL");
        // one bit off words that have short ones
        Edges.noShort(0x02861613, 0x40161613, 0x80165613, 0x00a5a563, 0x08a58533, 0x00009067, 0x00200073, 0x00001073);
        Edges.noShort(-1, 7, 0x7f, 0x0000ffff);
        Edges.shorter(0, CodeWords.NONE);
        Edges.shorter(0x8002, CodeWords.NONE);
    }
}
