/**
 * The ends of what the immediate of a kind may be: the least and the greatest with the words that
 * have them, and the step between two; looked at through every call that takes or gives one.
 */
final class Ends {
    private static final long WRAP = 1L << 32;

    private final int kind;
    private final int d;
    private final int a;
    private final int b;
    private int least;
    private int leastWord;
    private int greatest;
    private int greatestWord;
    private int step = 1;

    private Ends(int kind, int d, int a, int b) {
        this.kind = kind;
        this.d = d;
        this.a = a;
        this.b = b;
    }

    /** Of a kind, in words with these registers. */
    static Ends of(int kind, int d, int a, int b) {
        return new Ends(kind, d, a, b);
    }

    Ends least(int i, int word) {
        least = i;
        leastWord = word;
        return this;
    }

    Ends greatest(int i, int word) {
        greatest = i;
        greatestWord = word;
        return this;
    }

    Ends step(int step) {
        this.step = step;
        return this;
    }

    /** The two ends may be; what is just beyond them, between two steps or a wrap away may not. */
    Ends hold() {
        inside(least, leastWord);
        inside(greatest, greatestWord);
        Edges.fit(leastWord, greatest, greatestWord);
        Edges.fit(greatestWord, least, leastWord);
        for (int k = 1; k < step; k++) {
            outside(least + k);
            outside(greatest - k);
        }
        for (int k = 1; k <= step; k++) {
            outside((long) least - k);
            outside((long) greatest + k);
        }
        for (long v : new long[] {WRAP, -WRAP, least + WRAP, least - WRAP, greatest + WRAP, greatest - WRAP,
            Edges.LEAST_INT, Edges.GREATEST_INT, Long.MIN_VALUE, Long.MAX_VALUE}) {
            outside(v);
        }
        return this;
    }

    /** An immediate that may be, and its word. */
    Ends inside(int i, int word) {
        Edges.word(kind, d, a, b, i, word);
        Edges.kind(word, kind);
        Edges.part(word, 3, i);
        Edges.may(kind, i, true);
        Edges.fit(word, i, word);
        Edges.fit(leastWord, i, word);
        return this;
    }

    /** An immediate that may not be. */
    Ends outside(long v) {
        Edges.may(kind, v, false);
        Edges.fit(leastWord, v, Check.ARGUMENT);
        Edges.fit(greatestWord, v, Check.ARGUMENT);
        if (v == (int) v) {
            Edges.word(kind, d, a, b, (int) v, Check.ARGUMENT);
        }
        return this;
    }
}
