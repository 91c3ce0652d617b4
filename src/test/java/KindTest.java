/** Promise 3: the kind of a word. */
public final class KindTest {
    public static void main(String[] args) {
        for (Samples.Sample s : Samples.ROWS) {
            kind(s.word, s.kind);
            if (!s.isLong()) {
                // the upper half of a SHORT word does not count
                kind(s.word | 0xffff0000, s.kind);
                kind(s.word | 0x12340000, s.kind);
            }
        }
        illegalLong();
        illegalShort();
        Check.end();
    }

    private static void kind(int word, int want) {
        Check.due("kind(0x" + Integer.toHexString(word) + ")", Check.fresh().kind(word), want);
    }

    private static void illegalLong() {
        int[] words = {
            0xffffffff, 0x0000ffff, 0x00000007, 0x0000007f, 0x00001067, 0x00007067, 0x00002063, 0x00003063,
            0x00003003, 0x00006003, 0x00007003, 0x00003023, 0x00007023, 0x02001013, 0x40001013, 0x02005013,
            0x60005013, 0x40001033, 0x40002033, 0x40004033, 0x40006033, 0x40007033, 0x04000033, 0x42000033,
            0x0000000f, 0x0ff0008f, 0x0ff0100f, 0x0fe0000f, 0x00200073, 0x000000f3, 0x00100473, 0x00001073,
        };
        for (int word : words) {
            kind(word, CodeWords.NONE);
        }
    }

    private static void illegalShort() {
        int[] words = {
            0x0000, 0x0004, 0x001c, 0x0005, 0x107d, 0x0081, 0x4001, 0x407d, 0x6101, 0x6001, 0x6005, 0x6081,
            0x8001, 0x9005, 0x9401, 0x9c01, 0x9c21, 0x9c41, 0x9c61, 0x2000, 0x6000, 0x8000, 0xa000, 0xe000,
            0x2002, 0x6002, 0xa002, 0xe002, 0x0002, 0x0006, 0x0082, 0x1086, 0x4002, 0x5002, 0x8002, 0x8006,
            0x9006,
        };
        for (int word : words) {
            kind(word, CodeWords.NONE);
            kind(word | 0x7fff0000, CodeWords.NONE);
        }
    }
}
