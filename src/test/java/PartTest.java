/** Promise 5: the parts of a word. */
public final class PartTest {
    public static void main(String[] args) {
        for (Samples.Sample s : Samples.ROWS) {
            for (int what = 0; what < 4; what++) {
                long want = s.has(what) ? s.parts[what] : Check.NO_ELEMENT;
                part(s.word, what, want);
                if (!s.isLong()) {
                    part(s.word | 0xabcd0000, what, want);
                }
            }
            for (int what : new int[] {-1, 4, 5, 32, 33, 35, Integer.MIN_VALUE, Integer.MAX_VALUE}) {
                part(s.word, what, Check.NO_ELEMENT);
            }
        }
        for (int illegal : new int[] {0, 4, 0xffffffff, 0x7f, 0x9006, 0x8002}) {
            for (int what = -1; what < 5; what++) {
                part(illegal, what, Check.NO_ELEMENT);
            }
        }
        eachBitOfTheImmediates();
        Check.end();
    }

    private static void part(int word, int what, long want) {
        Check.due("part(0x" + Integer.toHexString(word) + ", " + what + ")", Check.part(word, what), want);
    }

    /** A word put together from an immediate gives it back, bit by bit and inverted. */
    private static void eachBitOfTheImmediates() {
        for (Samples.Sample s : Samples.ROWS) {
            for (int bit = 0; s.has(3) && bit < 21; bit++) {
                for (int i : new int[] {1 << bit, ~(1 << bit), -(1 << bit), 0xfffff ^ 1 << bit}) {
                    long word = Check.word(s.kind, s.partOr(0, 0), s.partOr(1, 0), s.partOr(2, 0), i);
                    if (word != Check.ARGUMENT) {
                        part((int) word, 3, i);
                        for (int what = 0; what < 3; what++) {
                            part((int) word, what, s.has(what) ? s.parts[what] : Check.NO_ELEMENT);
                        }
                    }
                }
            }
        }
        // the scattered immediates, as an assembler makes them
        part(0x800000ef, 3, -1048576);
        part(0x7ffff06f, 3, 1048574);
        part(0x2340156f, 3, 0x1234);
        part(0x80029063, 3, -4096);
        part(0x009440e3, 3, 2048);
    }
}
