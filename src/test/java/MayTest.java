/** Promise 9: which immediates a kind may have, by a table of the document's ranges. */
public final class MayTest {
    public static void main(String[] args) {
        for (Samples.Sample s : Samples.ROWS) {
            for (long v = -9000; v <= 9000; v++) {
                may(s, v);
            }
            for (long edge : new long[] {1L << 19, 1L << 20, 1L << 21, 1L << 31, 1L << 32, 1L << 63}) {
                for (long v = -70; v <= 70; v++) {
                    may(s, edge + v);
                    may(s, -edge + v);
                }
            }
        }
        for (int kind : new int[] {-1, 75, 100, Integer.MIN_VALUE, Integer.MAX_VALUE}) {
            for (long v : new long[] {0, 4, 16, Long.MIN_VALUE, Long.MAX_VALUE}) {
                Check.due("may(" + kind + ", " + v + ")", Check.fresh().may(kind, v) ? 1 : 0, 0);
            }
        }
        Check.end();
    }

    private static void may(Samples.Sample s, long v) {
        Check.due("may(" + s.kind + ", " + v + ")", Check.fresh().may(s.kind, v) ? 1 : 0, isDue(s.name, v) ? 1 : 0);
    }

    private static boolean isDue(String name, long v) {
        switch (name) {
            case "lui": case "auipc":
                return within(v, 0, 1048575, 1);
            case "jal":
                return within(v, -1048576, 1048574, 2);
            case "beq": case "bne": case "blt": case "bge": case "bltu": case "bgeu":
                return within(v, -4096, 4094, 2);
            case "jalr": case "addi": case "slti": case "sltiu": case "xori": case "ori": case "andi":
            case "lb": case "lh": case "lw": case "lbu": case "lhu": case "sb": case "sh": case "sw":
                return within(v, -2048, 2047, 1);
            case "slli": case "srli": case "srai":
                return within(v, 0, 31, 1);
            case "c.addi4spn":
                return within(v, 4, 1020, 4);
            case "c.lw": case "c.sw":
                return within(v, 0, 124, 4);
            case "c.addi":
                return within(v, -32, 31, 1) && v != 0;
            case "c.jal": case "c.j":
                return within(v, -2048, 2046, 2);
            case "c.li": case "c.andi":
                return within(v, -32, 31, 1);
            case "c.addi16sp":
                return within(v, -512, 496, 16) && v != 0;
            case "c.lui":
                return within(v, 1, 31, 1) || within(v, 1048544, 1048575, 1);
            case "c.srli": case "c.srai": case "c.slli":
                return within(v, 1, 31, 1);
            case "c.beqz": case "c.bnez":
                return within(v, -256, 254, 2);
            case "c.lwsp": case "c.swsp":
                return within(v, 0, 252, 4);
            default:
                return false;
        }
    }

    private static boolean within(long v, long least, long most, long step) {
        return v >= least && v <= most && v % step == 0;
    }
}
