/** Terms, the bits of the immediates: each lies where the document's row has it, read from the highest bit down. */
public final class ImmediateBitsTest {
    private static final int UPPER_SPAN = 1 << 20;

    public static void main(String[] args) {
        for (int kind = 0; kind <= 1; kind++) {
            lie(kind, false, 31, 19, 18, 17, 16, 15, 14, 13, 12, 11, 10, 9, 8, 7, 6, 5, 4, 3, 2, 1, 0);
        }
        lie(2, true, 31, 20, 10, 9, 8, 7, 6, 5, 4, 3, 2, 1, 11, 19, 18, 17, 16, 15, 14, 13, 12);
        for (int kind : new int[] {3, 10, 11, 12, 13, 14, 18, 19, 20, 21, 22, 23}) {
            lie(kind, true, 31, 11, 10, 9, 8, 7, 6, 5, 4, 3, 2, 1, 0);
        }
        for (int kind = 4; kind <= 9; kind++) {
            lie(kind, true, 31, 12, 10, 9, 8, 7, 6, 5, -1, -1, -1, -1, -1, -1, -1, -1, -1, -1, -1, -1, -1, 4, 3, 2, 1, 11);
        }
        for (int kind = 15; kind <= 17; kind++) {
            lie(kind, true, 31, 11, 10, 9, 8, 7, 6, 5, -1, -1, -1, -1, -1, -1, -1, -1, -1, -1, -1, -1, -1, 4, 3, 2, 1, 0);
        }
        for (int kind = 24; kind <= 26; kind++) {
            lie(kind, false, 24, 4, 3, 2, 1, 0);
        }
        shortOnes();
        Check.end();
    }

    private static void shortOnes() {
        lie(48, false, 12, 5, 4, 9, 8, 7, 6, 2, 3);
        lie(49, false, 12, 5, 4, 3, -1, -1, -1, 2, 6);
        lie(50, false, 12, 5, 4, 3, -1, -1, -1, 2, 6);
        for (int kind : new int[] {52, 54, 56, 59}) {
            lie(kind, true, 12, 5, -1, -1, -1, -1, -1, 4, 3, 2, 1, 0);
        }
        lie(53, true, 12, 11, 4, 9, 8, 10, 6, 7, 3, 2, 1, 5);
        lie(64, true, 12, 11, 4, 9, 8, 10, 6, 7, 3, 2, 1, 5);
        lie(55, true, 12, 9, -1, -1, -1, -1, -1, 4, 6, 8, 7, 5);
        for (int kind : new int[] {57, 58, 67}) {
            lie(kind, false, 6, 4, 3, 2, 1, 0);
        }
        lie(65, true, 12, 8, 4, 3, -1, -1, -1, 7, 6, 2, 1, 5);
        lie(66, true, 12, 8, 4, 3, -1, -1, -1, 7, 6, 2, 1, 5);
        lie(68, false, 12, 5, -1, -1, -1, -1, -1, 4, 3, 2, 7, 6);
        lie(74, false, 12, 5, 4, 3, 2, 7, 6);
    }

    /** From word bit top down these bits of i; -1 is another part's bit. */
    private static void lie(int kind, boolean signed, int top, int... row) {
        Samples.Sample s = Samples.ROWS[kind];
        Check.sentence("the bits of i in " + s.name);
        int all = 0;
        int allPlaces = 0;
        for (int k = 0; k < row.length; k++) {
            all |= row[k] < 0 ? 0 : 1 << row[k];
            allPlaces |= row[k] < 0 ? 0 : 1 << top - k;
        }
        hold(s, s.word | allPlaces, told(kind, signed, all, all));
        for (int k = 0; k < row.length; k++) {
            if (row[k] >= 0) {
                hold(s, (s.word | allPlaces) ^ 1 << top - k, told(kind, signed, all, all ^ 1 << row[k]));
                hold(s, s.word & ~allPlaces | 1 << top - k, told(kind, signed, all, 1 << row[k]));
            }
        }
    }

    private static void hold(Samples.Sample s, int word, int i) {
        Edges.part(word, 3, i);
        Edges.word(s.kind, s.partOr(0, 0), s.partOr(1, 0), s.partOr(2, 0), i, word);
        Edges.fit(s.word, i, word);
    }

    /** What these bits say, the highest of all being the sign; of c.lui modulo 2^20. */
    private static int told(int kind, boolean signed, int all, int bits) {
        int sign = Integer.highestOneBit(all);
        int value = signed && (bits & sign) != 0 ? bits - 2 * sign : bits;
        return kind == 56 ? value & UPPER_SPAN - 1 : value;
    }
}
