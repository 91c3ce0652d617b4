/** Promise 12: the kind with a name. */
public final class NamedTest {
    public static void main(String[] args) {
        for (Samples.Sample s : Samples.ROWS) {
            Check.due("named " + s.name, Check.named(s.name), s.kind);
            everySplit(s);
            misspelt(s);
        }
        for (String name : new String[] {"", "x", "c.", ".word", ".half", "nop", "C.NOP", "c.nopc.nop", "lui lui"}) {
            Check.due("named " + name, Check.named(name), CodeWords.NONE);
        }
        // zeros are left out wherever they stand
        Check.due("l u i in the first", Check.fresh().named(0x6c00750000690000L, 0), 0);
        Check.due("lui in the second", Check.fresh().named(0, 0x00000000006c7569L), 0);
        Check.due("l u i over both", Check.fresh().named(0x000000000000006cL, 0x7500000000000069L), 0);
        Check.due("nothing", Check.fresh().named(0, 0), CodeWords.NONE);
        Check.due("bytes above 127", Check.fresh().named(0xecf5e90000000000L, 0), CodeWords.NONE);
        Check.due("all bits", Check.fresh().named(-1, -1), CodeWords.NONE);
        Check.due("lui and a blank", Check.fresh().named(0x6c75692000000000L, 0), CodeWords.NONE);
        Check.due("lui and a last byte 1", Check.fresh().named(0x6c75690000000000L, 1), CodeWords.NONE);
        Check.end();
    }

    /** A name may be cut between first and second anywhere that leaves eight bytes each. */
    private static void everySplit(Samples.Sample s) {
        for (int cut = 0; cut <= s.name.length(); cut++) {
            if (cut <= 8 && s.name.length() - cut <= 8) {
                long first = Check.packed(s.name.substring(0, cut), 0);
                long second = Check.packed(s.name.substring(cut), 0);
                Check.due("named " + s.name + " cut at " + cut, Check.fresh().named(first, second), s.kind);
                Check.due("named " + s.name + " set right", Check.fresh().named(first, setRight(second)), s.kind);
            }
        }
    }

    private static long setRight(long bytes) {
        return bytes == 0 ? 0 : bytes >>> (Long.numberOfTrailingZeros(bytes) / 8 * 8);
    }

    private static void misspelt(Samples.Sample s) {
        Check.due("named " + s.name + "z", Check.named(s.name + "z"), CodeWords.NONE);
        Check.due("named z" + s.name, Check.named("z" + s.name), CodeWords.NONE);
        Check.due("named " + s.name.toUpperCase(), Check.named(s.name.toUpperCase()), CodeWords.NONE);
    }
}
