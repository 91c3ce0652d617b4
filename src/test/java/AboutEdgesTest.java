/** Promise 13, its boundary cases: the end kinds, and the least and greatest of each answer. */
public final class AboutEdgesTest {
    public static void main(String[] args) {
        endKinds();
        patterns();
        parts();
        bytes();
        names();
        Check.end();
    }

    private static void endKinds() {
        Check.sentence("Of a kind: the least and the greatest");
        int[] least = {6, 9, 4, 3};
        int[] greatest = {14, 12, 2, 6};
        for (int what = 0; what < 4; what++) {
            Edges.about(0, what, least[what]);
            Edges.about(74, what, greatest[what]);
            Edges.about(-1, what, CodeWords.NONE);
            Edges.about(75, what, CodeWords.NONE);
        }
        for (int kind : new int[] {0, 74}) {
            Edges.about(kind, -1, CodeWords.NONE);
            Edges.about(kind, 4, CodeWords.NONE);
        }
    }

    private static void patterns() {
        Check.sentence("what 0: its PATTERN, 0 .. 16");
        for (int kind : new int[] {45, 46, 47, 51, 71}) {
            Edges.about(kind, 0, 0);
        }
        Edges.about(48, 0, 15);
        Edges.about(55, 0, 16);
        Edges.about(3, 0, 3);
        Edges.about(49, 0, 3);
        Edges.about(50, 0, 4);
        Edges.about(56, 0, 6);
        for (Samples.Sample s : Samples.ROWS) {
            Edges.about(s.kind, 0, s.pattern);
        }
    }

    private static void parts() {
        Check.sentence("what 1: its parts (1 d + 2 a + 4 b + 8 i)");
        int[] without = {45, 46, 47, 51, 71};
        for (int kind : without) {
            Edges.about(kind, 1, 0);
        }
        Edges.about(69, 1, 2);
        Edges.about(70, 1, 5);
        Edges.about(27, 1, 7);
        Edges.about(53, 1, 8);
        Edges.about(2, 1, 9);
        Edges.about(65, 1, 10);
        Edges.about(18, 1, 11);
        Edges.about(74, 1, 12);
        Edges.about(4, 1, 14);
        Edges.about(50, 1, 14);
    }

    private static void bytes() {
        Check.sentence("what 2: the bytes of its words");
        for (int kind = 0; kind <= 74; kind++) {
            Edges.about(kind, 2, kind <= 47 ? 4 : 2);
        }
    }

    private static void names() {
        Check.sentence("what 3: how many characters its name has");
        for (int kind : new int[] {10, 11, 12, 15, 16, 17, 35}) {
            Edges.about(kind, 3, 2);
        }
        Edges.about(64, 3, 3);
        Edges.about(39, 3, 6);
        Edges.about(48, 3, 10);
        Edges.about(55, 3, 10);
    }
}
