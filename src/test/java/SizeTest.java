/** Promise 4: LONG when the lowest two bits are 11. */
public final class SizeTest {
    public static void main(String[] args) {
        for (int high : new int[] {0, 4, 0x1000, 0xfffc, 0xfffffffc, 0x80000000, 0x7ffffffc}) {
            for (int low = 0; low < 4; low++) {
                Check.due("size(" + (high | low) + ")", Check.fresh().size(high | low), low == 3 ? 4 : 2);
            }
        }
        for (Samples.Sample s : Samples.ROWS) {
            Check.due("size of " + s.name, Check.fresh().size(s.word), s.isLong() ? 4 : 2);
        }
        Check.end();
    }
}
