/** Promise 1: OUT of a new object is empty. */
public final class NewObjectTest {
    public static void main(String[] args) {
        CodeWords x = new CodeWords();
        for (int k = -2; k < 60; k++) {
            Check.due("new: letter(" + k + ")", x.letter(k), CodeWords.NONE);
        }
        CodeWords told = new CodeWords();
        told.tell(19, 0);
        Check.due("another object's tell: letter(0)", new CodeWords().letter(0), CodeWords.NONE);
        Check.due("the object that told: letter(0)", told.letter(0), 'a');
        Check.due("NONE", CodeWords.NONE, -1);
        Check.end();
    }
}
