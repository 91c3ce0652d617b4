/** Promise 11: the characters of OUT. */
public final class LetterTest {
    public static void main(String[] args) {
        CodeWords x = new CodeWords();
        int length = x.tell(0x009440e3, 0x1000);
        String text = "blt s0, s1, 0x1800";
        Check.due("the length", length, text.length());
        for (int k = 0; k < text.length(); k++) {
            Check.due("letter(" + k + ")", x.letter(k), text.charAt(k));
        }
        for (int k : new int[] {-1, -2, length, length + 1, 47, 48, 49, 1000, Integer.MIN_VALUE, Integer.MAX_VALUE}) {
            Check.due("letter(" + k + ")", x.letter(k), CodeWords.NONE);
        }
        x.tell(0x73, 0);
        Check.due("letter(4) of ecall", x.letter(4), 'l');
        Check.due("letter(5) of ecall, behind a longer text", x.letter(5), CodeWords.NONE);
        Check.end();
    }
}
