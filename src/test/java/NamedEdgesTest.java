/** Promise 12, its boundary cases: names of no and of all bytes, and zeros anywhere. */
public final class NamedEdgesTest {
    private static final int ALL_BYTES = 16;

    public static void main(String[] args) {
        empty();
        everyPlaceOfTheZeros();
        full();
        firstThenSecond();
        highestFirst();
        beginningsOfOthers();
        oneCharacterMoreOrLess();
        otherCharacters();
        Check.end();
    }

    private static void named(String sixteen, int want) {
        long first = Check.packed(sixteen, 0);
        long second = Check.packed(sixteen, 8);
        Check.due("named \"" + sixteen.replace('\0', '_') + "\"", Check.fresh().named(first, second), want);
    }

    private static void empty() {
        Check.sentence("NONE if there is none: no characters at all");
        Check.due("named(0, 0)", Check.fresh().named(0, 0), CodeWords.NONE);
    }

    /** A name set into the sixteen bytes with gaps: all at the front, all at the end, and spread out. */
    private static void everyPlaceOfTheZeros() {
        Check.sentence("zeros left out (anywhere)");
        for (Samples.Sample s : Samples.ROWS) {
            int zeros = ALL_BYTES - s.name.length();
            for (int cut = 0; cut <= s.name.length(); cut++) {
                for (int ahead = 0; ahead <= zeros; ahead++) {
                    String front = "\0".repeat(ahead) + s.name.substring(0, cut);
                    named(front + "\0".repeat(zeros - ahead) + s.name.substring(cut), s.kind);
                }
            }
            StringBuilder spread = new StringBuilder();
            for (int k = 0; k < s.name.length(); k++) {
                spread.append(s.name.charAt(k)).append(k < zeros ? "\0" : "");
            }
            named(spread.toString(), s.kind);
        }
    }

    private static void full() {
        Check.sentence("its characters are the bytes of first and then of second: all sixteen");
        named("c.addi4spnc.addi", CodeWords.NONE);
        named("luiluiluiluilui!", CodeWords.NONE);
        named("c.addi16sp______", CodeWords.NONE);
        named("______c.addi16sp", CodeWords.NONE);
        Check.due("named(-1, -1)", Check.fresh().named(-1, -1), CodeWords.NONE);
        Check.due("named of the least longs", Check.fresh().named(Long.MIN_VALUE, Long.MIN_VALUE), CodeWords.NONE);
        Check.due("named of the greatest longs", Check.fresh().named(Long.MAX_VALUE, Long.MAX_VALUE), CodeWords.NONE);
    }

    private static void firstThenSecond() {
        Check.sentence("the bytes of first and then of second");
        Check.due("c.addi4s, pn", Check.fresh().named(Check.packed("c.addi4s", 0), Check.packed("pn", 0)), 48);
        Check.due("pn, c.addi4s", Check.fresh().named(Check.packed("pn", 0), Check.packed("c.addi4s", 0)), CodeWords.NONE);
        Check.due("su, b", Check.fresh().named(0x7375L, 0x62L), 28);
        Check.due("b, su", Check.fresh().named(0x62L, 0x7375L), CodeWords.NONE);
        Check.due("lui, nothing", Check.fresh().named(0x6c7569L, 0), 0);
        Check.due("nothing, lui", Check.fresh().named(0, 0x6c7569L), 0);
        Check.due("lui, lui", Check.fresh().named(0x6c7569L, 0x6c7569L), CodeWords.NONE);
    }

    private static void highestFirst() {
        Check.sentence("the highest first");
        Check.due("sub", Check.fresh().named(0x7375620000000000L, 0), 28);
        Check.due("bus", Check.fresh().named(0x6275730000000000L, 0), CodeWords.NONE);
    }

    private static void beginningsOfOthers() {
        Check.sentence("the kind with a name: names that begin others");
        String[] names = {"lb", "lbu", "or", "ori", "slt", "slti", "sltiu", "sltu", "mul", "mulh", "mulhsu", "mulhu",
            "jal", "jalr", "c.j", "c.jal", "c.jalr", "c.jr", "c.add", "c.addi", "c.addi16sp", "c.addi4spn", "c.lw", "c.lwsp"};
        int[] kinds = {10, 13, 35, 22, 30, 19, 20, 31, 37, 38, 39, 40, 2, 3, 64, 53, 72, 69, 73, 52, 55, 48, 49, 68};
        for (int n = 0; n < names.length; n++) {
            named(names[n], kinds[n]);
        }
    }

    private static boolean isName(String name) {
        for (Samples.Sample s : Samples.ROWS) {
            if (s.name.equals(name)) {
                return true;
            }
        }
        return false;
    }

    private static void noName(String name) {
        if (!isName(name)) {
            named(name, CodeWords.NONE);
        }
    }

    private static void oneCharacterMoreOrLess() {
        Check.sentence("NONE if there is none: one character more or less");
        for (Samples.Sample s : Samples.ROWS) {
            noName(s.name.substring(1));
            noName(s.name.substring(0, s.name.length() - 1));
            for (char more = 1; more < 256; more++) {
                noName(s.name + more);
                noName(more + s.name);
            }
        }
    }

    private static void otherCharacters() {
        Check.sentence("NONE if there is none: another character");
        for (Samples.Sample s : Samples.ROWS) {
            for (int k = 0; k < s.name.length(); k++) {
                for (int bit = 0; bit < 8; bit++) {
                    char other = (char) (s.name.charAt(k) ^ 1 << bit);
                    noName(s.name.substring(0, k) + other + s.name.substring(k + 1));
                }
            }
        }
    }
}
