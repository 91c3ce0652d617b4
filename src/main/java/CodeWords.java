import java.util.NoSuchElementException;

/**
 * Instruction words of a 32-bit machine, of 32 bits (LONG) and of 16 (SHORT): put together from
 * their parts and taken apart, told as one another, and told as texts.
 */
public final class CodeWords {
    public static final int NONE = -1;

    private static final int PART_D = 1;
    private static final int PART_A = 2;
    private static final int PART_B = 4;
    private static final int PART_I = 8;

    // A kind's shape is its PATTERN plus those of these traits that it has.
    private static final int PATTERN_BITS = 31;
    private static final int SIGNED = 32;
    private static final int NOT_ZERO = 64;
    private static final int ZERO_REGISTER_TOO = 128;
    private static final int UPPER = 256;

    private static final int ADDI_NUMBER = 18;
    private static final int ADD_NUMBER = 27;
    private static final int XOR_NUMBER = 32;
    private static final int OR_NUMBER = 35;
    private static final int AND_NUMBER = 36;

    private static final int LONG_BITS = 32;
    private static final int WIDE_REGISTER_BITS = 5;
    private static final int FIRST_SHORT_REGISTER = 8;
    private static final int LAST_SHORT_REGISTER = 15;
    private static final int LAST_REGISTER = 31;
    private static final int STACK_POINTER = 2;
    private static final int UPPER_SPAN = 1 << 20;
    private static final int NAME_BYTES = 8;

    // Above the longest TEXT, which has fewer than 30 characters.
    private static final int OUT_ROOM = 48;

    // Four characters a register, blanks behind the shorter names.
    private static final int REGISTER_NAME_ROOM = 4;
    private static final String REGISTER_NAMES =
        "zerora  sp  gp  tp  t0  t1  t2  s0  s1  a0  a1  a2  a3  a4  a5  a6  a7  s2  s3  s4  s5  s6  s7  s8  s9  s10 s11 t3  t4  t5  t6  ";

    // Three operands a PATTERN: d, a, b, I, P, X and O(a) as in the document, s is sp, S is O(sp).
    private static final int MOST_OPERANDS = 3;
    private static final String OPERANDS =
        "   dabdaIdO bO abPdX dP P  aP db a  dI dS bS dsIsI ";

    private static final Kind[] KINDS = Kind.values();

    private final char[] out;
    private int outLength;

    public CodeWords() {
        out = new char[OUT_ROOM];
        outLength = 0;
    }

    public int word(int kind, int d, int a, int b, int i) throws IndexOutOfBoundsException, IllegalArgumentException {
        if (!isKind(kind)) {
            throw new IndexOutOfBoundsException("no such kind");
        }
        if (!KINDS[kind].allows(d, a, b, i)) {
            throw new IllegalArgumentException("a part is none that may be");
        }
        return KINDS[kind].compose(d, a, b, i);
    }

    public int kind(int word) {
        return numberOf(word);
    }

    public int size(int word) {
        return isLong(word) ? 4 : 2;
    }

    public int part(int word, int what) throws NoSuchElementException {
        int number = numberOf(word);
        if (number == NONE) {
            throw new NoSuchElementException("an illegal word");
        }
        if (what < 0 || what > 3 || !KINDS[number].has(1 << what)) {
            throw new NoSuchElementException("no such part");
        }
        return what == 3 ? KINDS[number].immediate(word) : KINDS[number].register(word, 1 << what);
    }

    public int longer(int word) throws NoSuchElementException {
        int number = numberOf(word);
        if (number == NONE || !isKind(KINDS[number].stands)) {
            throw new NoSuchElementException("no short word");
        }
        Kind kind = KINDS[number];
        return longOf(kind, kind.register(word, PART_D), kind.register(word, PART_A), kind.register(word, PART_B),
            kind.immediate(word));
    }

    public int shorter(int word) {
        int number = numberOf(word);
        if (number == NONE || !isLong(word)) {
            return NONE;
        }
        Kind kind = KINDS[number];
        int d = kind.register(word, PART_D);
        int a = kind.register(word, PART_A);
        int b = kind.register(word, PART_B);
        int i = kind.immediate(word);
        int found = shortOf(number, d, a, b, i);
        if (found == NONE && exchanges(number) && d == b) {
            found = shortOf(number, d, b, a, i);
        }
        if (found == NONE && number == ADDI_NUMBER && i == 0 && d != 0 && a != 0) {
            found = shortOf(ADD_NUMBER, d, 0, a, 0);
        }
        return found;
    }

    public int fit(int word, long v) throws IllegalArgumentException {
        int number = numberOf(word);
        if (number == NONE) {
            throw new IllegalArgumentException("an illegal word");
        }
        Kind kind = KINDS[number];
        if (!kind.allowsImmediate(v)) {
            throw new IllegalArgumentException("no immediate that may be");
        }
        return kind.compose(kind.register(word, PART_D), kind.register(word, PART_A), kind.register(word, PART_B), (int) v);
    }

    public boolean may(int kind, long v) {
        return isKind(kind) && KINDS[kind].allowsImmediate(v);
    }

    public int tell(int word, int place) {
        outLength = 0;
        int number = numberOf(word);
        if (number == NONE) {
            writeIllegal(word);
        } else {
            writeLegal(KINDS[number], word, place);
        }
        return outLength;
    }

    public int letter(int k) {
        return k >= 0 && k < outLength && k < out.length ? out[k] : NONE;
    }

    public int named(long first, long second) {
        for (int number = 0; number < KINDS.length; number++) {
            if (spells(KINDS[number].title, first, second)) {
                return number;
            }
        }
        return NONE;
    }

    public int about(int kind, int what) {
        if (!isKind(kind)) {
            return NONE;
        }
        switch (what) {
            case 0:
                return KINDS[kind].pattern;
            case 1:
                return KINDS[kind].parts;
            case 2:
                return KINDS[kind].layout.length() / 8;
            case 3:
                return KINDS[kind].title.length();
            default:
                return NONE;
        }
    }

    private static boolean isKind(int number) {
        return number >= 0 && number < KINDS.length;
    }

    private static boolean isLong(int word) {
        return (word & 3) == 3;
    }

    private static int numberOf(int word) {
        for (int number = 0; number < KINDS.length; number++) {
            if (KINDS[number].admits(word)) {
                return number;
            }
        }
        return NONE;
    }

    private static boolean exchanges(int number) {
        return number == ADD_NUMBER || number == XOR_NUMBER || number == OR_NUMBER || number == AND_NUMBER;
    }

    private static int longOf(Kind kind, int d, int a, int b, int i) {
        if (!isKind(kind.stands)) {
            return NONE;
        }
        int longD = slotRegister(kind.slots, 0, d, a, b);
        int longA = slotRegister(kind.slots, 1, d, a, b);
        int longB = slotRegister(kind.slots, 2, d, a, b);
        return KINDS[kind.stands].compose(longD, longA, longB, kind.has(PART_I) ? i : 0);
    }

    private static int slotRegister(String slots, int slot, int d, int a, int b) {
        if (slot < 0 || slot >= slots.length()) {
            return 0;
        }
        char sign = slots.charAt(slot);
        if (sign == 'd') {
            return d;
        }
        if (sign == 'a') {
            return a;
        }
        if (sign == 'b') {
            return b;
        }
        return sign >= '0' && sign <= '9' ? sign - '0' : 0;
    }

    // A short kind's own parts are always those of the same letters in the long word.
    private static int shortOf(int number, int d, int a, int b, int i) {
        if (!isKind(number)) {
            return NONE;
        }
        int wanted = KINDS[number].compose(d, a, b, i);
        for (int least = 0; least < KINDS.length; least++) {
            Kind kind = KINDS[least];
            if (kind.stands == number && kind.allows(d, a, b, i) && longOf(kind, d, a, b, i) == wanted) {
                return kind.compose(d, a, b, i);
            }
        }
        return NONE;
    }

    private static boolean spells(String title, long first, long second) {
        int met = 0;
        for (int k = 0; k < 2 * NAME_BYTES; k++) {
            long half = k < NAME_BYTES ? first : second;
            int sign = (int) (half >>> (8 * (NAME_BYTES - 1 - k % NAME_BYTES))) & 255;
            if (sign != 0) {
                if (met >= title.length() || title.charAt(met) != sign) {
                    return false;
                }
                met++;
            }
        }
        return met == title.length();
    }

    private void writeIllegal(int word) {
        if (isLong(word)) {
            writeString(".word ");
            writeHex(word);
        } else {
            writeString(".half ");
            writeHex(word & 65535);
        }
    }

    private void writeLegal(Kind kind, int word, int place) {
        writeString(kind.title);
        for (int k = 0; k < MOST_OPERANDS; k++) {
            char operand = operandAt(kind.pattern * MOST_OPERANDS + k);
            if (operand != ' ') {
                writeString(k == 0 ? " " : ", ");
                writeOperand(operand, kind, word, place);
            }
        }
    }

    private static char operandAt(int index) {
        return index >= 0 && index < OPERANDS.length() ? OPERANDS.charAt(index) : ' ';
    }

    private void writeOperand(int operand, Kind kind, int word, int place) {
        switch (operand) {
            case 'd':
                writeRegister(kind.register(word, PART_D));
                break;
            case 'a':
                writeRegister(kind.register(word, PART_A));
                break;
            case 'b':
                writeRegister(kind.register(word, PART_B));
                break;
            case 's':
                writeRegister(STACK_POINTER);
                break;
            case 'I':
                writeDecimal(kind.immediate(word));
                break;
            case 'O':
                writeOffset(kind.immediate(word), kind.register(word, PART_A));
                break;
            case 'S':
                writeOffset(kind.immediate(word), STACK_POINTER);
                break;
            case 'P':
                writeHex(place + kind.immediate(word));
                break;
            default:
                writeHex(kind.immediate(word));
                break;
        }
    }

    private void writeOffset(int offset, int register) {
        writeDecimal(offset);
        write('(');
        writeRegister(register);
        write(')');
    }

    private void writeRegister(int register) {
        int start = register * REGISTER_NAME_ROOM;
        for (int k = start; k < start + REGISTER_NAME_ROOM; k++) {
            if (k >= 0 && k < REGISTER_NAMES.length() && REGISTER_NAMES.charAt(k) != ' ') {
                write(REGISTER_NAMES.charAt(k));
            }
        }
    }

    // The immediates that are told in decimal lie within -2048 .. 2047.
    private void writeDecimal(int value) {
        if (value < 0) {
            write('-');
        }
        int amount = value < 0 ? -value : value;
        for (int unit = 1000; unit > 0; unit /= 10) {
            if (amount >= unit || unit == 1) {
                write((char) ('0' + amount / unit % 10));
            }
        }
    }

    private void writeHex(int value) {
        writeString("0x");
        for (int shift = 28; shift >= 0; shift -= 4) {
            if (value >>> shift != 0 || shift == 0) {
                int digit = (value >>> shift) & 15;
                write((char) (digit < 10 ? '0' + digit : 'a' + digit - 10));
            }
        }
    }

    private void writeString(String text) {
        for (int k = 0; k < text.length(); k++) {
            write(text.charAt(k));
        }
    }

    private void write(char sign) {
        if (outLength >= 0 && outLength < out.length) {
            out[outLength] = sign;
            outLength++;
        }
    }

    /**
     * The kinds in the order of their numbers. A layout tells a word's bits, the highest first:
     * 0 and 1 are the kind's own, d, a, b are bits of these registers (the highest first), and
     * A .. U are the bits i0 .. i20 of the immediate. A short kind's last two columns are the
     * number of the long one for which it stands and that one's d, a, b: a part of the short
     * word, a register's number, or - where the long kind has none.
     */
    private enum Kind {
        LUI("lui", 6, "TSRQPONMLKJIHGFEDCBAddddd0110111"),
        AUIPC("auipc", 6, "TSRQPONMLKJIHGFEDCBAddddd0010111"),
        JAL("jal", 7 + SIGNED, "UKJIHGFEDCBLTSRQPONMddddd1101111"),
        JALR("jalr", 3 + SIGNED, "LKJIHGFEDCBAaaaaa000ddddd1100111"),
        BEQ("beq", 5 + SIGNED, "MKJIHGFbbbbbaaaaa000EDCBL1100011"),
        BNE("bne", 5 + SIGNED, "MKJIHGFbbbbbaaaaa001EDCBL1100011"),
        BLT("blt", 5 + SIGNED, "MKJIHGFbbbbbaaaaa100EDCBL1100011"),
        BGE("bge", 5 + SIGNED, "MKJIHGFbbbbbaaaaa101EDCBL1100011"),
        BLTU("bltu", 5 + SIGNED, "MKJIHGFbbbbbaaaaa110EDCBL1100011"),
        BGEU("bgeu", 5 + SIGNED, "MKJIHGFbbbbbaaaaa111EDCBL1100011"),
        LB("lb", 3 + SIGNED, "LKJIHGFEDCBAaaaaa000ddddd0000011"),
        LH("lh", 3 + SIGNED, "LKJIHGFEDCBAaaaaa001ddddd0000011"),
        LW("lw", 3 + SIGNED, "LKJIHGFEDCBAaaaaa010ddddd0000011"),
        LBU("lbu", 3 + SIGNED, "LKJIHGFEDCBAaaaaa100ddddd0000011"),
        LHU("lhu", 3 + SIGNED, "LKJIHGFEDCBAaaaaa101ddddd0000011"),
        SB("sb", 4 + SIGNED, "LKJIHGFbbbbbaaaaa000EDCBA0100011"),
        SH("sh", 4 + SIGNED, "LKJIHGFbbbbbaaaaa001EDCBA0100011"),
        SW("sw", 4 + SIGNED, "LKJIHGFbbbbbaaaaa010EDCBA0100011"),
        ADDI("addi", 2 + SIGNED, "LKJIHGFEDCBAaaaaa000ddddd0010011"),
        SLTI("slti", 2 + SIGNED, "LKJIHGFEDCBAaaaaa010ddddd0010011"),
        SLTIU("sltiu", 2 + SIGNED, "LKJIHGFEDCBAaaaaa011ddddd0010011"),
        XORI("xori", 2 + SIGNED, "LKJIHGFEDCBAaaaaa100ddddd0010011"),
        ORI("ori", 2 + SIGNED, "LKJIHGFEDCBAaaaaa110ddddd0010011"),
        ANDI("andi", 2 + SIGNED, "LKJIHGFEDCBAaaaaa111ddddd0010011"),
        SLLI("slli", 2, "0000000EDCBAaaaaa001ddddd0010011"),
        SRLI("srli", 2, "0000000EDCBAaaaaa101ddddd0010011"),
        SRAI("srai", 2, "0100000EDCBAaaaaa101ddddd0010011"),
        ADD("add", 1, "0000000bbbbbaaaaa000ddddd0110011"),
        SUB("sub", 1, "0100000bbbbbaaaaa000ddddd0110011"),
        SLL("sll", 1, "0000000bbbbbaaaaa001ddddd0110011"),
        SLT("slt", 1, "0000000bbbbbaaaaa010ddddd0110011"),
        SLTU("sltu", 1, "0000000bbbbbaaaaa011ddddd0110011"),
        XOR("xor", 1, "0000000bbbbbaaaaa100ddddd0110011"),
        SRL("srl", 1, "0000000bbbbbaaaaa101ddddd0110011"),
        SRA("sra", 1, "0100000bbbbbaaaaa101ddddd0110011"),
        OR("or", 1, "0000000bbbbbaaaaa110ddddd0110011"),
        AND("and", 1, "0000000bbbbbaaaaa111ddddd0110011"),
        MUL("mul", 1, "0000001bbbbbaaaaa000ddddd0110011"),
        MULH("mulh", 1, "0000001bbbbbaaaaa001ddddd0110011"),
        MULHSU("mulhsu", 1, "0000001bbbbbaaaaa010ddddd0110011"),
        MULHU("mulhu", 1, "0000001bbbbbaaaaa011ddddd0110011"),
        DIV("div", 1, "0000001bbbbbaaaaa100ddddd0110011"),
        DIVU("divu", 1, "0000001bbbbbaaaaa101ddddd0110011"),
        REM("rem", 1, "0000001bbbbbaaaaa110ddddd0110011"),
        REMU("remu", 1, "0000001bbbbbaaaaa111ddddd0110011"),
        FENCE("fence", 0, "00001111111100000000000000001111"),
        ECALL("ecall", 0, "00000000000000000000000001110011"),
        EBREAK("ebreak", 0, "00000000000100000000000001110011"),
        C_ADDI4SPN("c.addi4spn", 15 + NOT_ZERO, "000FEJIHGCDddd00", 18, "d2-"),
        C_LW("c.lw", 3, "010FEDaaaCGddd00", 12, "da-"),
        C_SW("c.sw", 4, "110FEDaaaCGbbb00", 17, "-ab"),
        C_NOP("c.nop", 0, "0000000000000001", 18, "00-"),
        C_ADDI("c.addi", 12 + SIGNED + NOT_ZERO, "000FdddddEDCBA01", 18, "dd-"),
        C_JAL("c.jal", 8 + SIGNED, "001LEJIKGHDCBF01", 2, "1--"),
        C_LI("c.li", 12 + SIGNED, "010FdddddEDCBA01", 18, "d0-"),
        C_ADDI16SP("c.addi16sp", 16 + SIGNED + NOT_ZERO, "011J00010EGIHF01", 18, "22-"),
        C_LUI("c.lui", 6 + SIGNED + NOT_ZERO + UPPER, "011FdddddEDCBA01", 0, "d--"),
        C_SRLI("c.srli", 12 + NOT_ZERO, "100000dddEDCBA01", 25, "dd-"),
        C_SRAI("c.srai", 12 + NOT_ZERO, "100001dddEDCBA01", 26, "dd-"),
        C_ANDI("c.andi", 12 + SIGNED, "100F10dddEDCBA01", 23, "dd-"),
        C_SUB("c.sub", 10, "100011ddd00bbb01", 28, "ddb"),
        C_XOR("c.xor", 10, "100011ddd01bbb01", 32, "ddb"),
        C_OR("c.or", 10, "100011ddd10bbb01", 35, "ddb"),
        C_AND("c.and", 10, "100011ddd11bbb01", 36, "ddb"),
        C_J("c.j", 8 + SIGNED, "101LEJIKGHDCBF01", 2, "0--"),
        C_BEQZ("c.beqz", 9 + SIGNED, "110IEDaaaHGCBF01", 4, "-a0"),
        C_BNEZ("c.bnez", 9 + SIGNED, "111IEDaaaHGCBF01", 5, "-a0"),
        C_SLLI("c.slli", 12 + NOT_ZERO, "0000dddddEDCBA10", 24, "dd-"),
        C_LWSP("c.lwsp", 13, "010FdddddEDCHG10", 12, "d2-"),
        C_JR("c.jr", 11, "1000aaaaa0000010", 3, "0a-"),
        C_MV("c.mv", 10, "1000dddddbbbbb10", 27, "d0b"),
        C_EBREAK("c.ebreak", 0, "1001000000000010", 47, "---"),
        C_JALR("c.jalr", 11, "1001aaaaa0000010", 3, "1a-"),
        C_ADD("c.add", 10, "1001dddddbbbbb10", 27, "ddb"),
        C_SWSP("c.swsp", 14 + ZERO_REGISTER_TOO, "110FEDCHGbbbbb10", 17, "-2b");

        final String title;
        final String layout;
        final String slots;
        final int pattern;
        final int stands;
        final int parts;
        private final int traits;
        private final int ownMask;
        private final int ownBits;
        private final int placeD;
        private final int placeA;
        private final int placeB;
        private final int lowestBit;
        private final int highestBit;

        Kind(String title, int shape, String layout) {
            this(title, shape, layout, NONE, "");
        }

        Kind(String title, int shape, String layout, int stands, String slots) {
            this.title = title;
            this.layout = layout;
            this.stands = stands;
            this.slots = slots;
            pattern = shape & PATTERN_BITS;
            traits = shape & ~PATTERN_BITS;
            int found = 0;
            int mask = 0;
            int bits = 0;
            int lowest = LONG_BITS - 1;
            int highest = 0;
            for (int k = 0; k < layout.length(); k++) {
                char sign = layout.charAt(k);
                int part = partOf(sign);
                found |= part;
                mask = (mask << 1) | (part == 0 ? 1 : 0);
                bits = (bits << 1) | (sign == '1' ? 1 : 0);
                if (part == PART_I) {
                    lowest = Math.min(lowest, sign - 'A');
                    highest = Math.max(highest, sign - 'A');
                }
            }
            parts = found;
            ownMask = mask;
            ownBits = bits;
            placeD = lowestPlace(layout, 'd');
            placeA = lowestPlace(layout, 'a');
            placeB = lowestPlace(layout, 'b');
            lowestBit = lowest;
            highestBit = highest;
        }

        private static int partOf(char sign) {
            if (sign >= 'A' && sign <= 'U') {
                return PART_I;
            }
            if (sign == 'd') {
                return PART_D;
            }
            if (sign == 'a') {
                return PART_A;
            }
            return sign == 'b' ? PART_B : 0;
        }

        private static int lowestPlace(String layout, char sign) {
            for (int place = 0; place < layout.length(); place++) {
                if (layout.charAt(layout.length() - 1 - place) == sign) {
                    return place;
                }
            }
            return 0;
        }

        boolean has(int part) {
            return (parts & part) != 0;
        }

        private boolean is(int trait) {
            return (traits & trait) != 0;
        }

        private int placeOf(int part) {
            if (part == PART_D) {
                return placeD;
            }
            return part == PART_A ? placeA : placeB;
        }

        // Only a register of five bits still has its letter four bits above its lowest one.
        private boolean isNarrow(int part) {
            int top = layout.length() - 1 - placeOf(part) - (WIDE_REGISTER_BITS - 1);
            return top < 0 || top >= layout.length() || partOf(layout.charAt(top)) != part;
        }

        boolean admits(int word) {
            return (word & ownMask) == ownBits
                && allows(register(word, PART_D), register(word, PART_A), register(word, PART_B), immediate(word));
        }

        boolean allows(int d, int a, int b, int i) {
            return allowsRegister(PART_D, d) && allowsRegister(PART_A, a) && allowsRegister(PART_B, b)
                && (!has(PART_I) || allowsImmediate(i));
        }

        private boolean allowsRegister(int part, int register) {
            if (!has(part)) {
                return true;
            }
            if (isNarrow(part)) {
                return register >= FIRST_SHORT_REGISTER && register <= LAST_SHORT_REGISTER;
            }
            if (register == 0) {
                return layout.length() == LONG_BITS || is(ZERO_REGISTER_TOO);
            }
            if (register == STACK_POINTER) {
                return !is(UPPER);
            }
            return register > 0 && register <= LAST_REGISTER;
        }

        boolean allowsImmediate(long v) {
            if (!has(PART_I) || (is(NOT_ZERO) && v == 0)) {
                return false;
            }
            if (is(UPPER) && (v < 0 || v >= UPPER_SPAN)) {
                return false;
            }
            long plain = is(UPPER) && v >= UPPER_SPAN / 2 ? v - UPPER_SPAN : v;
            long end = is(SIGNED) ? 1L << highestBit : 2L << highestBit;
            long least = is(SIGNED) ? -end : 0;
            return plain >= least && plain < end && (plain & ((1L << lowestBit) - 1)) == 0;
        }

        /** 0 where the kind does not have that part. */
        int register(int word, int part) {
            if (!has(part)) {
                return 0;
            }
            int field = word >>> placeOf(part);
            return isNarrow(part) ? FIRST_SHORT_REGISTER + (field & 7) : field & LAST_REGISTER;
        }

        /** 0 where the kind has no immediate. */
        int immediate(int word) {
            if (!has(PART_I)) {
                return 0;
            }
            int value = 0;
            for (int k = 0; k < layout.length(); k++) {
                char sign = layout.charAt(k);
                if (partOf(sign) == PART_I) {
                    value |= ((word >>> (layout.length() - 1 - k)) & 1) << (sign - 'A');
                }
            }
            if (is(SIGNED) && ((value >> highestBit) & 1) != 0) {
                value -= 2 << highestBit;
            }
            return is(UPPER) ? value & (UPPER_SPAN - 1) : value;
        }

        /** The word of parts that allows() has let through. */
        int compose(int d, int a, int b, int i) {
            return ownBits | registerBits(PART_D, d) | registerBits(PART_A, a) | registerBits(PART_B, b) | immediateBits(i);
        }

        private int registerBits(int part, int register) {
            if (!has(part)) {
                return 0;
            }
            return (isNarrow(part) ? register & 7 : register & LAST_REGISTER) << placeOf(part);
        }

        private int immediateBits(int i) {
            int bits = 0;
            for (int k = 0; has(PART_I) && k < layout.length(); k++) {
                char sign = layout.charAt(k);
                if (partOf(sign) == PART_I) {
                    bits |= ((i >> (sign - 'A')) & 1) << (layout.length() - 1 - k);
                }
            }
            return bits;
        }
    }
}
