/** Promise 13: what a kind is. */
public final class AboutTest {
    public static void main(String[] args) {
        for (Samples.Sample s : Samples.ROWS) {
            int parts = 0;
            for (int what = 0; what < 4; what++) {
                parts += s.has(what) ? 1 << what : 0;
            }
            about(s.kind, 0, s.pattern);
            about(s.kind, 1, parts);
            about(s.kind, 2, s.isLong() ? 4 : 2);
            about(s.kind, 3, s.name.length());
            for (int what : new int[] {-1, 4, 5, Integer.MIN_VALUE, Integer.MAX_VALUE}) {
                about(s.kind, what, CodeWords.NONE);
            }
        }
        for (int kind : new int[] {-1, 75, 76, Integer.MIN_VALUE, Integer.MAX_VALUE}) {
            for (int what = -1; what < 5; what++) {
                about(kind, what, CodeWords.NONE);
            }
        }
        Check.end();
    }

    private static void about(int kind, int what, int want) {
        Check.due("about(" + kind + ", " + what + ")", Check.fresh().about(kind, what), want);
    }
}
