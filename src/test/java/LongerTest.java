/** Promise 6: the long word for which a short one stands. */
public final class LongerTest {
    public static void main(String[] args) {
        for (Samples.Sample s : Samples.ROWS) {
            longer(s.word, s.isLong() ? Check.NO_ELEMENT : s.longWord);
            if (!s.isLong()) {
                longer(s.word | 0xffff0000, s.longWord);
            }
        }
        longer(0x717d, 0xff010113);
        longer(0x7139, 0xfc010113);
        for (int illegal : new int[] {0, 0x8002, 0x6101, 0x9006, 0xfffe, 0xffffffff, 0x7f, 0x10000}) {
            longer(illegal, Check.NO_ELEMENT);
        }
        Check.end();
    }

    private static void longer(int word, long want) {
        Check.due("longer(0x" + Integer.toHexString(word) + ")", Check.longer(word), want);
    }
}
