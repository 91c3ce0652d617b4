/** Terms, LONG and SHORT words: which bits decide it and which count. */
public final class HalvesEdgesTest {
    private static final int[] UPPER_HALVES = {0x00010000, 0x80000000, 0x7fff0000, 0xffff0000, 0x00030000, 0x12340000};

    public static void main(String[] args) {
        lowestTwoBits();
        upperHalfOfAShortWord();
        upperHalfIsNotAnswered();
        upperHalfOfALongWord();
        noWordIsOfTwo();
        Check.end();
    }

    private static void lowestTwoBits() {
        Check.sentence("LONG when its lowest two bits are 11, else SHORT; 4 for a LONG word, 2 for a SHORT one");
        for (int rest : new int[] {0, 4, 0xfffc, 0x10000, Edges.LEAST_INT, 0x7ffffffc, 0xfffffffc}) {
            size(rest, 2);
            size(rest | 1, 2);
            size(rest | 2, 2);
            size(rest | 3, 4);
        }
    }

    private static void size(int word, int want) {
        Check.due("size(" + Check.hex(word) + ")", Check.fresh().size(word), want);
    }

    private static void upperHalfOfAShortWord() {
        Check.sentence("SHORT (its lowest 16 bits alone count)");
        for (Samples.Sample s : Samples.ROWS) {
            for (int upper : UPPER_HALVES) {
                if (!s.isLong()) {
                    sameAsWithout(s, s.word | upper);
                }
            }
        }
        for (int upper : UPPER_HALVES) {
            // the lower half would be of c.addi4spn, c.addi16sp and c.jr, were its parts not 0
            Edges.illegal(upper, upper | 0x6101, upper | 0x8002);
        }
    }

    private static void sameAsWithout(Samples.Sample s, int word) {
        Edges.kind(word, s.kind);
        for (int what = 0; what < 4; what++) {
            Edges.part(word, what, s.has(what) ? s.parts[what] : Check.NO_ELEMENT);
        }
        Edges.longer(word, s.longWord);
        Edges.shorter(word, CodeWords.NONE);
        Edges.fit(word, s.partOr(3, 0), s.has(3) ? s.word : Check.ARGUMENT);
        Edges.text(word, Samples.PLACE, s.text);
        size(word, 2);
    }

    private static void upperHalfIsNotAnswered() {
        Check.sentence("its lowest 16 bits alone count; a short one is 0 .. 65535");
        for (Samples.Sample s : Samples.ROWS) {
            for (int i : new int[] {-256, -32, -16, -2, 0, 2, 4, 16, 31, 32, 124, 0xfffe0, 0xfffff}) {
                if (!s.isLong() && Check.fresh().may(s.kind, i)) {
                    fitOfEachUpperHalf(s, i);
                }
            }
        }
        Edges.fit(0xffff0040, 1020, 0x1fe0);
        Edges.fit(0x80003001, 2046, 0x2ffd);
        Edges.fit(0x12347501, 0xfffff, 0x757d);
        Edges.fit(0x0001c002, 252, 0xdf82);
    }

    private static void fitOfEachUpperHalf(Samples.Sample s, int i) {
        long want = Check.word(s.kind, s.partOr(0, 0), s.partOr(1, 0), s.partOr(2, 0), i);
        Check.due("word(" + s.kind + ", .., " + i + ") lies in 0 .. 65535", want & ~65535L, 0);
        for (int upper : UPPER_HALVES) {
            Edges.fit(s.word | upper, i, want);
        }
    }

    private static void upperHalfOfALongWord() {
        Check.sentence("LONG (all its 32 bits count)");
        for (Samples.Sample s : Samples.ROWS) {
            for (int bit = 16; s.isLong() && bit < 32; bit++) {
                int other = s.word ^ 1 << bit;
                String text = Check.text(other, Samples.PLACE);
                Check.due("the text of " + Check.hex(other) + " is that of " + Check.hex(s.word), text.equals(s.text) ? 1 : 0, 0);
            }
        }
    }

    /** What the calls take apart as one kind they put together again as that kind's word. */
    private static void noWordIsOfTwo() {
        Check.sentence("(No word is of two.)");
        for (Samples.Sample s : Samples.ROWS) {
            Edges.word(s.kind, s.partOr(0, 0), s.partOr(1, 0), s.partOr(2, 0), s.partOr(3, 0), s.word);
            Edges.kind(s.word, s.kind);
        }
    }
}
