/** What the tests of the boundary cases share: a word looked at through every call that takes one. */
final class Edges {
    static final int LEAST_INT = Integer.MIN_VALUE;
    static final int GREATEST_INT = Integer.MAX_VALUE;

    private Edges() {
    }

    static void word(int kind, int d, int a, int b, int i, long want) {
        Check.due("word(" + kind + ", " + d + ", " + a + ", " + b + ", " + i + ")", Check.word(kind, d, a, b, i), want);
    }

    static void kind(int word, int want) {
        Check.due("kind(" + Check.hex(word) + ")", Check.fresh().kind(word), want);
    }

    static void part(int word, int what, long want) {
        Check.due("part(" + Check.hex(word) + ", " + what + ")", Check.part(word, what), want);
    }

    static void longer(int word, long want) {
        Check.due("longer(" + Check.hex(word) + ")", Check.longer(word), want);
    }

    static void shorter(int word, int want) {
        Check.due("shorter(" + Check.hex(word) + ")", Check.fresh().shorter(word), want);
    }

    static void fit(int word, long v, long want) {
        Check.due("fit(" + Check.hex(word) + ", " + v + ")", Check.fit(word, v), want);
    }

    static void may(int kind, long v, boolean want) {
        Check.due("may(" + kind + ", " + v + ")", Check.fresh().may(kind, v) ? 1 : 0, want ? 1 : 0);
    }

    static void text(int word, int place, String want) {
        Check.due("the text of " + Check.hex(word) + " at " + place, Check.text(word, place), want);
        Check.due("tell(" + Check.hex(word) + ", " + place + ")", Check.fresh().tell(word, place), want.length());
    }

    static void about(int kind, int what, int want) {
        Check.due("about(" + kind + ", " + what + ")", Check.fresh().about(kind, what), want);
    }

    /** A short word and the long one for which it stands, each from the other. */
    static void stands(int shortWord, int longWord) {
        longer(shortWord, longWord);
        shorter(longWord, shortWord);
    }

    /** Long words that no short one stands for, nor for one that does the same. */
    static void noShort(int... longWords) {
        for (int word : longWords) {
            shorter(word, CodeWords.NONE);
        }
    }

    /** Words of no kind, which every call refuses that asks for more than the size and the text. */
    static void illegal(int... words) {
        for (int word : words) {
            boolean isLong = (word & 3) == 3;
            kind(word, CodeWords.NONE);
            for (int what = 0; what < 4; what++) {
                part(word, what, Check.NO_ELEMENT);
            }
            longer(word, Check.NO_ELEMENT);
            shorter(word, CodeWords.NONE);
            for (long v : new long[] {0, 1, 4, 16}) {
                fit(word, v, Check.ARGUMENT);
            }
            text(word, 0, isLong ? ".word " + Check.hex(word) : ".half " + Check.hex(word & 0xffff));
        }
    }
}
