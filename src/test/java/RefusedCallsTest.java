/** Promises 2, 5, 6, 8, 9 and 13: each call that is refused, with what it throws or answers, and those just beside it. */
public final class RefusedCallsTest {
    private static final int[] NO_KINDS = {-1, 75, -2, 76, -75, 128, Edges.LEAST_INT, Edges.GREATEST_INT};
    private static final int[] NO_WHATS = {-1, 4, -2, 5, 31, 32, 33, 35, 36, Edges.LEAST_INT, Edges.GREATEST_INT};

    /** The greatest LONG and SHORT words among them, and those that a part alone makes ILLEGAL. */
    private static final int[] ILLEGAL = {
        0, 7, -1, -2, 0x7f, 0xffff, 0xfffe, 0x6101, 0x8002, 0x0005, 0x02059513, 0x00001067, Edges.GREATEST_INT, Edges.LEAST_INT,
    };

    public static void main(String[] args) {
        wordOfNoKind();
        wordOfTheEndKinds();
        wordOfWrongParts();
        wordOfPartsThatItDoesNotHave();
        shortWordsEnds();
        partOfIllegal();
        partThatItDoesNotHave();
        partOfAnotherWhat();
        longerOfLong();
        longerOfIllegal();
        fitOfIllegal();
        fitWithoutImmediate();
        fitOfWrongImmediate();
        mayWithoutKind();
        mayWithoutImmediate();
        aboutWithoutKind();
        aboutOfAnotherWhat();
        refusedCallsLeaveOut();
        Check.end();
    }

    private static void wordOfNoKind() {
        Check.sentence("word: IndexOutOfBoundsException: there is no such kind");
        for (int kind : NO_KINDS) {
            Edges.word(kind, 0, 0, 0, 0, Check.INDEX);
            Edges.word(kind, 10, 10, 10, 4, Check.INDEX);
            // that its parts could not be either does not matter
            Edges.word(kind, -1, 32, Edges.LEAST_INT, Edges.GREATEST_INT, Check.INDEX);
        }
    }

    private static void wordOfTheEndKinds() {
        Check.sentence("word: the least and the greatest kind");
        Edges.word(0, 0, 0, 0, 0, 0x00000037);
        Edges.word(74, 0, 0, 0, 0, 0xc002);
        Edges.word(47, 0, 0, 0, 0, 0x00100073);
        Edges.word(48, 8, 0, 0, 4, 0x0040);
    }

    private static void wordOfWrongParts() {
        Check.sentence("word: IllegalArgumentException: a part is none that may be");
        Edges.word(27, -1, 0, 0, 0, Check.ARGUMENT);
        Edges.word(27, 32, 0, 0, 0, Check.ARGUMENT);
        Edges.word(27, 0, -1, 0, 0, Check.ARGUMENT);
        Edges.word(27, 0, 32, 0, 0, Check.ARGUMENT);
        Edges.word(27, 0, 0, -1, 0, Check.ARGUMENT);
        Edges.word(27, 0, 0, 32, 0, Check.ARGUMENT);
        Edges.word(18, 0, 0, 0, -2049, Check.ARGUMENT);
        Edges.word(18, 0, 0, 0, 2048, Check.ARGUMENT);
        Edges.word(50, 0, 7, 8, 0, Check.ARGUMENT);
        Edges.word(50, 0, 8, 16, 0, Check.ARGUMENT);
        Edges.word(50, 0, 8, 8, 128, Check.ARGUMENT);
    }

    private static void wordOfPartsThatItDoesNotHave() {
        Check.sentence("word: those that the kind does not have are not looked at");
        for (Samples.Sample s : Samples.ROWS) {
            for (int what = 0; what < 4; what++) {
                for (int other : new int[] {-1, 0, 1, 31, 32, Edges.LEAST_INT, Edges.GREATEST_INT}) {
                    if (!s.has(what)) {
                        int[] p = {s.partOr(0, 0), s.partOr(1, 0), s.partOr(2, 0), s.partOr(3, 0)};
                        p[what] = other;
                        Edges.word(s.kind, p[0], p[1], p[2], p[3], s.word);
                    }
                }
            }
        }
    }

    private static void shortWordsEnds() {
        Check.sentence("word: a short one is 0 .. 65535");
        Edges.word(51, 0, 0, 0, 0, 0x0001);
        Edges.word(66, 0, 15, 0, -2, 0xfffd);
        Edges.word(66, 0, 8, 0, 0, 0xe001);
        Edges.word(74, 0, 0, 31, 252, 0xdffe);
        Edges.fit(0xffffe001, -2, 0xfc7d);
        for (Samples.Sample s : Samples.ROWS) {
            if (!s.isLong()) {
                long word = Check.word(s.kind, s.partOr(0, -1), s.partOr(1, -1), s.partOr(2, -1), s.partOr(3, -1));
                Check.due(s.name + " has 16 bits", word >>> 16, 0);
            }
        }
    }

    private static void partOfIllegal() {
        Check.sentence("part: NoSuchElementException: it is ILLEGAL");
        for (int word : ILLEGAL) {
            for (int what = -1; what <= 4; what++) {
                Edges.part(word, what, Check.NO_ELEMENT);
            }
        }
    }

    private static void partThatItDoesNotHave() {
        Check.sentence("part: NoSuchElementException: its kind does not have that part");
        for (Samples.Sample s : Samples.ROWS) {
            for (int what = 0; what < 4; what++) {
                Edges.part(s.word, what, s.has(what) ? s.parts[what] : Check.NO_ELEMENT);
            }
        }
    }

    private static void partOfAnotherWhat() {
        Check.sentence("part: NoSuchElementException: or for another what");
        for (Samples.Sample s : Samples.ROWS) {
            for (int what : NO_WHATS) {
                Edges.part(s.word, what, Check.NO_ELEMENT);
            }
        }
        Edges.part(0x00c58533, 0, 10);
        Edges.part(0x00c58533, 1, 11);
        Edges.part(0x00c58533, 2, 12);
        Edges.part(0x80058513, 3, -2048);
    }

    private static void longerOfLong() {
        Check.sentence("longer: NoSuchElementException: it is LONG");
        for (Samples.Sample s : Samples.ROWS) {
            Edges.longer(s.word, s.isLong() ? Check.NO_ELEMENT : s.longWord);
        }
        // the lower half with other lowest bits would be c.nop, c.jr, c.ebreak
        for (int word : new int[] {0x0003, 0x8083, 0x9003, 0x00010003}) {
            Edges.longer(word, Check.NO_ELEMENT);
        }
    }

    private static void longerOfIllegal() {
        Check.sentence("longer: NoSuchElementException: or ILLEGAL");
        for (int word : ILLEGAL) {
            Edges.longer(word, Check.NO_ELEMENT);
        }
    }

    private static void fitOfIllegal() {
        Check.sentence("fit: IllegalArgumentException: it is ILLEGAL");
        for (int word : ILLEGAL) {
            for (long v : new long[] {0, 1, 4, 16, -16, Long.MIN_VALUE, Long.MAX_VALUE}) {
                Edges.fit(word, v, Check.ARGUMENT);
            }
        }
    }

    private static void fitWithoutImmediate() {
        Check.sentence("fit: IllegalArgumentException: its kind has no i");
        for (Samples.Sample s : Samples.ROWS) {
            for (long v : new long[] {0, 1, 4, 16, -16, Long.MIN_VALUE, Long.MAX_VALUE}) {
                if (!s.has(3)) {
                    Edges.fit(s.word, v, Check.ARGUMENT);
                }
            }
        }
    }

    private static void fitOfWrongImmediate() {
        Check.sentence("fit: IllegalArgumentException: or v is none that may be");
        Edges.fit(0x00000013, -2048, 0x80000013);
        Edges.fit(0x00000013, 2047, 0x7ff00013);
        for (long v : new long[] {-2049, 2048, 4096, 1L << 32, (1L << 32) + 5, -(1L << 32), Long.MIN_VALUE, Long.MAX_VALUE}) {
            Edges.fit(0x00000013, v, Check.ARGUMENT);
        }
        // the other parts stay as they are, at both ends of theirs
        Edges.fit(0xffff8f93, 0, 0x000f8f93);
        Edges.fit(0xc07e, 252, 0xdffe);
        Edges.fit(0xdf82, 0, 0xc002);
    }

    private static void mayWithoutKind() {
        Check.sentence("may: false without such a kind");
        for (int kind : NO_KINDS) {
            for (long v : new long[] {0, 1, 4, 16, -16, Long.MIN_VALUE, Long.MAX_VALUE}) {
                Edges.may(kind, v, false);
            }
        }
        Edges.may(0, 0, true);
        Edges.may(74, 0, true);
    }

    private static void mayWithoutImmediate() {
        Check.sentence("may: false without i");
        for (Samples.Sample s : Samples.ROWS) {
            for (long v : new long[] {0, 1, 4, 16, -16, Long.MIN_VALUE, Long.MAX_VALUE}) {
                if (!s.has(3)) {
                    Edges.may(s.kind, v, false);
                }
            }
            if (s.has(3)) {
                Edges.may(s.kind, s.parts[3], true);
            }
        }
    }

    private static void aboutWithoutKind() {
        Check.sentence("about: NONE if there is no such kind");
        for (int kind : NO_KINDS) {
            for (int what = -1; what <= 4; what++) {
                Edges.about(kind, what, CodeWords.NONE);
            }
        }
    }

    private static void aboutOfAnotherWhat() {
        Check.sentence("about: NONE for another what");
        for (Samples.Sample s : Samples.ROWS) {
            for (int what : NO_WHATS) {
                Edges.about(s.kind, what, CodeWords.NONE);
            }
        }
    }

    private static void refusedCallsLeaveOut() {
        Check.sentence("a refused call changes nothing");
        CodeWords x = new CodeWords();
        int length = x.tell(0x009440e3, 0x1000);
        Check.answer(() -> x.word(75, 0, 0, 0, 0));
        Check.answer(() -> x.word(27, 32, 0, 0, 0));
        Check.answer(() -> x.part(0, 0));
        Check.answer(() -> x.longer(3));
        Check.answer(() -> x.fit(0, 0));
        x.shorter(0);
        x.may(75, 0);
        x.letter(-1);
        x.named(0, 0);
        x.about(75, 0);
        Check.due("OUT", Check.out(x, length), "blt s0, s1, 0x1800");
    }
}
