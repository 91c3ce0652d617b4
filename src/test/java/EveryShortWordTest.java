/** Promises 2 to 6, 8 and 10 over all words of 16 bits, held against Reference. */
public final class EveryShortWordTest {
    public static void main(String[] args) {
        for (int h = 0; h < 65536; h++) {
            if ((h & 3) != 3) {
                int[] want = Reference.parts(h);
                if (want == null) {
                    illegal(h);
                } else {
                    legal(h, want);
                }
            }
        }
        Check.end();
    }

    private static void illegal(int h) {
        String hex = Integer.toHexString(h);
        Check.due("kind of " + hex, Check.fresh().kind(h), CodeWords.NONE);
        Check.due("longer of " + hex, Check.longer(h), Check.NO_ELEMENT);
        Check.due("fit of " + hex, Check.fit(h, 4), Check.ARGUMENT);
        Check.due("text of " + hex, Check.text(h, 0), ".half 0x" + hex);
        for (int what = 0; what < 4; what++) {
            Check.due("part " + what + " of " + hex, Check.part(h, what), Check.NO_ELEMENT);
        }
    }

    private static void legal(int h, int[] want) {
        String hex = Integer.toHexString(h);
        Check.due("kind of " + hex, Check.fresh().kind(h), want[0]);
        Check.due("size of " + hex, Check.fresh().size(h), 2);
        for (int what = 0; what < 4; what++) {
            int part = want[what + 1];
            Check.due("part " + what + " of " + hex, Check.part(h, what), part == Samples.NO ? Check.NO_ELEMENT : part);
        }
        Check.due("word of the parts of " + hex, Check.word(want[0], want[1], want[2], want[3], want[4]), h);
        Check.due("longer of " + hex, Check.longer(h), Reference.longWord(Reference.behind(want)));
        Check.due("fit of " + hex, Check.fit(h, want[4]), want[4] == Samples.NO ? Check.ARGUMENT : h);
        Check.due("shorter of " + hex, Check.fresh().shorter(h), CodeWords.NONE);
    }
}
