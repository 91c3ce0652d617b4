/** Promises 2, 3, 5, 6 and 8 over many words of 32 bits, held against Reference. */
public final class ManyLongWordsTest {
    private static final int[] OPCODES = {0x37, 0x17, 0x6f, 0x67, 0x63, 0x03, 0x23, 0x13, 0x33, 0x73, 0x0f, 0x3b, 0x7f};
    private static final int WORDS = 400_000;

    public static void main(String[] args) {
        int mixed = 12345;
        for (int n = 0; n < WORDS; n++) {
            mixed = mixed * 1664525 + 1013904223;
            int spread = mixed ^ mixed >>> 15;
            int word = spread & ~0x7f | OPCODES[n % OPCODES.length];
            if (n % 3 != 0 && (word & 0x5f) == 0x13) {
                word = word & 0x01ffffff | new int[] {0, 1, 32}[n % 7 % 3] << 25;
            }
            look(word);
        }
        // every word one bit off those without parts
        for (int word : new int[] {0x0ff0000f, 0x73, 0x100073}) {
            look(word);
            for (int bit = 2; bit < 32; bit++) {
                look(word ^ 1 << bit);
            }
        }
        Check.end();
    }

    private static void look(int word) {
        String hex = Integer.toHexString(word);
        int[] want = Reference.parts(word);
        Check.due("kind of " + hex, Check.fresh().kind(word), want == null ? CodeWords.NONE : want[0]);
        Check.due("longer of " + hex, Check.longer(word), Check.NO_ELEMENT);
        for (int what = 0; what < 4; what++) {
            boolean has = want != null && want[what + 1] != Samples.NO;
            Check.due("part " + what + " of " + hex, Check.part(word, what), has ? want[what + 1] : Check.NO_ELEMENT);
        }
        if (want != null) {
            Check.due("word of the parts of " + hex, Check.word(want[0], want[1], want[2], want[3], want[4]), word);
            Check.due("fit of " + hex, Check.fit(word, want[4]), want[4] == Samples.NO ? Check.ARGUMENT : word);
        }
    }
}
