/** Promises 1, 10 and 11: OUT empty, its shortest and longest TEXTs, and the characters at its ends. */
public final class OutEdgesTest {
    private static final int LONGEST_WORD = 0x80007063;
    private static final String LONGEST_TEXT = "bgeu zero, zero, 0xfffff000";
    private static final int MOST_CALLS = 512;

    public static void main(String[] args) {
        empty();
        othersLeaveItEmpty();
        ends(LONGEST_WORD, LONGEST_TEXT);
        ends(0x0001, "c.nop");
        ends(0, ".half 0x0");
        ends(-1, ".word 0xffffffff");
        becomes();
        ofEachObjectItsOwn();
        calls();
        Check.end();
    }

    private static void noLetters(CodeWords x, String state) {
        for (int k : new int[] {0, 1, -1, 31, 32, Edges.LEAST_INT, Edges.GREATEST_INT}) {
            Check.due(state + ": letter(" + k + ")", x.letter(k), CodeWords.NONE);
        }
    }

    private static void empty() {
        Check.sentence("CodeWords(): OUT is empty");
        noLetters(new CodeWords(), "a new object");
    }

    private static void othersLeaveItEmpty() {
        Check.sentence("CodeWords(): OUT is empty, until tell");
        CodeWords x = new CodeWords();
        x.word(18, 10, 10, 0, -3);
        x.kind(19);
        x.size(19);
        x.part(19, 0);
        x.longer(1);
        x.shorter(19);
        x.fit(19, 5);
        x.may(18, 5);
        x.named(0x6c75690000000000L, 0);
        x.about(0, 0);
        noLetters(x, "behind the other calls");
    }

    private static void ends(int word, String text) {
        Check.sentence("tell: how many characters; letter: character k of OUT, NONE if there is none");
        CodeWords x = new CodeWords();
        int length = x.tell(word, 0);
        Check.due("the length of " + text, length, text.length());
        Check.due("the first", x.letter(0), text.charAt(0));
        Check.due("the last", x.letter(length - 1), text.charAt(length - 1));
        Check.due("OUT", Check.out(x, length), text);
        for (int k : new int[] {-1, -2, -length, length, length + 1, 47, 48, 49, 255, 256, Edges.LEAST_INT, Edges.GREATEST_INT}) {
            Check.due("letter(" + k + ") of " + text, x.letter(k), CodeWords.NONE);
        }
    }

    private static void becomes() {
        Check.sentence("tell: OUT becomes the TEXT of a word");
        CodeWords x = new CodeWords();
        int longest = x.tell(LONGEST_WORD, 0);
        int length = x.tell(0x0001, 0);
        Check.due("OUT, a short text behind a long one", Check.out(x, length), "c.nop");
        for (int k = length; k <= longest; k++) {
            Check.due("letter(" + k + ") where the long text was", x.letter(k), CodeWords.NONE);
        }
        Check.due("OUT, a long text behind a short one", Check.out(x, x.tell(LONGEST_WORD, 0)), LONGEST_TEXT);
        Check.due("OUT, the same again", Check.out(x, x.tell(LONGEST_WORD, 0)), LONGEST_TEXT);
        Check.due("OUT, an ILLEGAL word's", Check.out(x, x.tell(0, 0)), ".half 0x0");
    }

    private static void ofEachObjectItsOwn() {
        Check.sentence("OUT is the object's own");
        CodeWords one = new CodeWords();
        CodeWords other = new CodeWords();
        int length = one.tell(LONGEST_WORD, 0);
        noLetters(other, "another object");
        int otherLength = other.tell(0x0001, 0);
        Check.due("the one's OUT", Check.out(one, length), LONGEST_TEXT);
        Check.due("the other's OUT", Check.out(other, otherLength), "c.nop");
    }

    private static void calls() {
        Check.sentence("An object is used for at most 512 calls after it has been made");
        CodeWords x = new CodeWords();
        for (int call = 1; call < MOST_CALLS; call++) {
            Check.due("call " + call, x.tell(LONGEST_WORD, 0), LONGEST_TEXT.length());
        }
        Check.due("the 512th call", x.letter(LONGEST_TEXT.length() - 1), '0');
        CodeWords refusing = new CodeWords();
        for (int call = 1; call < MOST_CALLS; call++) {
            Check.due("call " + call, Check.answer(() -> refusing.word(75, 0, 0, 0, 0)), Check.INDEX);
        }
        Check.due("the 512th call", refusing.word(18, 10, 10, 0, -3), 0xffd50513);
    }
}
