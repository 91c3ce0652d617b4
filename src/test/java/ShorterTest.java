import java.util.HashMap;
import java.util.Map;

/** Promise 7: the short word for a long one. */
public final class ShorterTest {
    private static final Map<Integer, Integer> LEAST = new HashMap<>();
    private static final int[] EXCHANGING = {0x33, 0x4033, 0x6033, 0x7033};

    public static void main(String[] args) {
        gatherLeast();
        ofEachSample();
        written();
        allOfThreeRegisters();
        allAddi();
        everyLongOfAShort();
        Check.end();
    }

    private static void shorter(int word, int want) {
        Check.due("shorter(0x" + Integer.toHexString(word) + ")", Check.fresh().shorter(word), want);
    }

    /** Long word to short word of the least kind, from all short words. */
    private static void gatherLeast() {
        for (int h = 0; h < 65536; h++) {
            int[] parts = (h & 3) == 3 ? null : Reference.parts(h);
            if (parts != null) {
                int word = Reference.longWord(Reference.behind(parts));
                Integer known = LEAST.get(word);
                if (known == null || Reference.parts(known)[0] > parts[0]) {
                    LEAST.put(word, h);
                }
            }
        }
    }

    private static void ofEachSample() {
        for (Samples.Sample s : Samples.ROWS) {
            if (!s.isLong()) {
                shorter(s.longWord, s.word);
                shorter(s.word, CodeWords.NONE);
            }
        }
        for (int illegal : new int[] {0, 0x7f, 0xffffffff, 0x02001013, 0x8002}) {
            shorter(illegal, CodeWords.NONE);
        }
    }

    private static void written() {
        shorter(0x01010113, 0x0141);     // addi sp, sp, 16: c.addi ahead of c.addi16sp
        shorter(0x02010113, 0x6105);     // addi sp, sp, 32: c.addi16sp
        shorter(0x00058513, 0x852e);     // addi a0, a1, 0: as c.mv a0, a1
        shorter(0x00010413, 0x840a);     // addi s0, sp, 0: as c.mv s0, sp
        shorter(0x00410413, 0x0040);     // addi s0, sp, 4: c.addi4spn
        shorter(0x00008013, CodeWords.NONE); // addi zero, ra, 0
        shorter(0x00000093, 0x4081);     // addi ra, zero, 0: c.li
        shorter(0x00a58533, 0x952e);     // add a0, a1, a0: as c.add a0, a1
        shorter(0x00a5c533, 0x8d2d);     // xor a0, a1, a0: as c.xor a0, a1
        shorter(0x00a5e533, 0x8d4d);     // or a0, a1, a0
        shorter(0x00a5f533, 0x8d6d);     // and a0, a1, a0
        shorter(0x40a58533, CodeWords.NONE); // sub a0, a1, a0
        shorter(0x00a00533, 0x852a);     // add a0, zero, a0: c.mv
        shorter(0x00050533, CodeWords.NONE); // add a0, a0, zero
        shorter(0x00058533, CodeWords.NONE); // add a0, a1, zero
        shorter(0x00008033, CodeWords.NONE); // add zero, ra, zero
        shorter(0x0ff0000f, CodeWords.NONE);
        shorter(0x00a00063, CodeWords.NONE); // beq zero, a0
    }

    private static int due(int word) {
        return LEAST.getOrDefault(word, CodeWords.NONE);
    }

    private static void allOfThreeRegisters() {
        for (int base : EXCHANGING) {
            for (int n = 0; n < 32 * 32 * 32; n++) {
                int d = n & 31;
                int a = n >>> 5 & 31;
                int b = n >>> 10;
                int word = base | d << 7 | a << 15 | b << 20;
                int want = due(word);
                if (want == CodeWords.NONE && d == b) {
                    want = due(base | d << 7 | b << 15 | a << 20);
                }
                shorter(word, want);
                int other = 0x40000033 | d << 7 | a << 15 | b << 20;
                shorter(other, due(other));
            }
        }
    }

    private static void allAddi() {
        for (int n = 0; n < 32 * 32; n++) {
            for (int i = -600; i < 1100; i++) {
                int d = n & 31;
                int a = n >>> 5;
                int word = 0x13 | d << 7 | a << 15 | i << 20;
                int want = due(word);
                if (want == CodeWords.NONE && i == 0 && d != 0 && a != 0) {
                    want = due(0x33 | d << 7 | a << 20);
                }
                shorter(word, want);
            }
        }
    }

    /** Each long word that a short one stands for, and those one bit off it. */
    private static void everyLongOfAShort() {
        for (Map.Entry<Integer, Integer> entry : LEAST.entrySet()) {
            shorter(entry.getKey(), entry.getValue());
            for (int bit = 0; bit < 32; bit++) {
                int word = entry.getKey() ^ 1 << bit;
                int opcode = word & 0x7f;
                if (opcode != 0x13 && opcode != 0x33) {
                    shorter(word, due(word));
                }
            }
        }
    }
}
