/** Promise 8: an immediate put into a word that is there. */
public final class FitTest {
    public static void main(String[] args) {
        for (Samples.Sample s : Samples.ROWS) {
            fit(s.word, s.partOr(3, 0), s.has(3) ? s.word : Check.ARGUMENT);
            for (long v : new long[] {1L << 32, -(1L << 32), Long.MIN_VALUE, Long.MAX_VALUE, (1L << 32) + s.partOr(3, 0), 1L << 21}) {
                fit(s.word, v, Check.ARGUMENT);
            }
            for (int i = -40; s.has(3) && i < 40; i++) {
                fit(s.word, i, Check.word(s.kind, s.partOr(0, 0), s.partOr(1, 0), s.partOr(2, 0), i));
            }
        }
        fit(0x7eb50fe3, -4096, 0x80b50063);
        fit(0x7eb50fe3, 4095, Check.ARGUMENT);
        fit(0x7eb50fe3, 4096, Check.ARGUMENT);
        fit(0x800000ef, 1048574, 0x7ffff0ef);
        fit(0x12345537, 1048575, 0xfffff537);
        fit(0x12345537, -1, Check.ARGUMENT);
        fit(0x7501, 1048575, 0x757d);
        fit(0x7501, -1, Check.ARGUMENT);
        // a short word's upper half is not carried along
        fit(0xffff7501, 1, 0x6505);
        for (int illegal : new int[] {0, 0x6101, 0xffffffff, 0x7f}) {
            fit(illegal, 0, Check.ARGUMENT);
            fit(illegal, 16, Check.ARGUMENT);
        }
        Check.end();
    }

    private static void fit(int word, long v, long want) {
        Check.due("fit(0x" + Integer.toHexString(word) + ", " + v + ")", Check.fit(word, v), want);
    }
}
