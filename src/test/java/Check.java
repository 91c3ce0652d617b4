/** What the tests share: counting of wrong answers, calls that may throw, and texts. */
final class Check {
    /** What a call answers that throws, none of which is an int. */
    static final long INDEX = Long.MIN_VALUE;
    static final long ARGUMENT = Long.MIN_VALUE + 1;
    static final long NO_ELEMENT = Long.MIN_VALUE + 2;
    static final long OTHER = Long.MIN_VALUE + 3;

    /** The document lets an object be used for 512 calls. */
    private static final int CALLS_OF_AN_OBJECT = 500;

    private static CodeWords shared = new CodeWords();
    private static int calls = 0;
    private static int wrong = 0;
    private static String sentence = "";

    private Check() {
    }

    interface Call {
        long answer();
    }

    /** An object that has calls left. */
    static CodeWords fresh() {
        calls++;
        if (calls > CALLS_OF_AN_OBJECT) {
            shared = new CodeWords();
            calls = 1;
        }
        return shared;
    }

    /** The document's sentence that the next lines hold to; a wrong answer is told with it. */
    static void sentence(String words) {
        sentence = "[" + words + "] ";
    }

    static void due(String what, long got, long want) {
        if (got != want) {
            wrong++;
            System.out.println(sentence + what + " answered " + told(got) + ", due is " + told(want));
        }
    }

    static void due(String what, String got, String want) {
        if (!got.equals(want)) {
            wrong++;
            System.out.println(sentence + what + " answered \"" + got + "\", due is \"" + want + "\"");
        }
    }

    /** Ends the program, with 1 if an answer was wrong. */
    static void end() {
        if (wrong != 0) {
            System.out.println(wrong + " answers are not as due");
            System.exit(1);
        }
    }

    static String hex(int word) {
        return "0x" + Integer.toHexString(word);
    }

    static long word(int kind, int d, int a, int b, int i) {
        return answer(() -> fresh().word(kind, d, a, b, i));
    }

    static long part(int word, int what) {
        return answer(() -> fresh().part(word, what));
    }

    static long longer(int word) {
        return answer(() -> fresh().longer(word));
    }

    static long fit(int word, long v) {
        return answer(() -> fresh().fit(word, v));
    }

    /** The TEXT of a word, on an object of its own. */
    static String text(int word, int place) {
        CodeWords x = new CodeWords();
        int length = x.tell(word, place);
        return out(x, length);
    }

    /** OUT of an object, when it has that length; else a text that says so. */
    static String out(CodeWords x, int length) {
        StringBuilder text = new StringBuilder();
        for (int k = 0; k < length; k++) {
            text.append((char) x.letter(k));
        }
        if (x.letter(length) != CodeWords.NONE) {
            text.append("<and more>");
        }
        return text.toString();
    }

    static long named(String name) {
        return fresh().named(packed(name, 0), packed(name, 8));
    }

    /** Up to eight characters of a name, the first in the highest byte. */
    static long packed(String name, int from) {
        long bytes = 0;
        for (int k = from; k < from + 8; k++) {
            bytes = bytes << 8 | (k < name.length() ? name.charAt(k) & 255 : 0);
        }
        return bytes;
    }

    static long answer(Call call) {
        try {
            return call.answer();
        } catch (RuntimeException e) {
            if (e.getClass() == IndexOutOfBoundsException.class) {
                return INDEX;
            }
            if (e.getClass() == IllegalArgumentException.class) {
                return ARGUMENT;
            }
            return e.getClass() == java.util.NoSuchElementException.class ? NO_ELEMENT : OTHER;
        }
    }

    private static String told(long answer) {
        if (answer == INDEX) {
            return "IndexOutOfBoundsException";
        }
        if (answer == ARGUMENT) {
            return "IllegalArgumentException";
        }
        if (answer == NO_ELEMENT) {
            return "NoSuchElementException";
        }
        return answer == OTHER ? "another exception" : Long.toString(answer);
    }
}
