/**
 * The words taken apart a second time, by hand-written shifts, to hold CodeWords against.
 * An answer is {kind, d, a, b, i}, a part that the kind does not have being Samples.NO; or null.
 */
final class Reference {
    private static final int NO = Samples.NO;

    private Reference() {
    }

    static int[] parts(int word) {
        return (word & 3) == 3 ? longParts(word) : shortParts(word & 0xffff);
    }

    private static int[] longParts(int w) {
        int d = w >>> 7 & 31;
        int a = w >>> 15 & 31;
        int b = w >>> 20 & 31;
        int f3 = w >>> 12 & 7;
        int f7 = w >>> 25;
        switch (w & 0x7f) {
            case 0x37:
                return new int[] {0, d, NO, NO, w >>> 12};
            case 0x17:
                return new int[] {1, d, NO, NO, w >>> 12};
            case 0x6f:
                return new int[] {2, d, NO, NO,
                    (w >> 31) << 20 | (w >>> 12 & 0xff) << 12 | (w >>> 20 & 1) << 11 | (w >>> 21 & 0x3ff) << 1};
            case 0x67:
                return f3 == 0 ? new int[] {3, d, a, NO, w >> 20} : null;
            case 0x63:
                return of(new int[] {4, 5, -1, -1, 6, 7, 8, 9}[f3], NO, a, b,
                    (w >> 31) << 12 | (w >>> 7 & 1) << 11 | (w >>> 25 & 0x3f) << 5 | (w >>> 8 & 15) << 1);
            case 0x03:
                return of(new int[] {10, 11, 12, -1, 13, 14, -1, -1}[f3], d, a, NO, w >> 20);
            case 0x23:
                return of(new int[] {15, 16, 17, -1, -1, -1, -1, -1}[f3], NO, a, b, (w >> 25) << 5 | d);
            case 0x13:
                if (f3 == 1) {
                    return of(f7 == 0 ? 24 : -1, d, a, NO, b);
                }
                if (f3 == 5) {
                    return of(f7 == 0 ? 25 : f7 == 32 ? 26 : -1, d, a, NO, b);
                }
                return of(new int[] {18, -1, 19, 20, 21, -1, 22, 23}[f3], d, a, NO, w >> 20);
            case 0x33:
                return of(threeRegisters(f3, f7), d, a, b, NO);
            default:
                return of(w == 0x0ff0000f ? 45 : w == 0x73 ? 46 : w == 0x100073 ? 47 : -1, NO, NO, NO, NO);
        }
    }

    private static int threeRegisters(int f3, int f7) {
        if (f7 == 0) {
            return new int[] {27, 29, 30, 31, 32, 33, 35, 36}[f3];
        }
        if (f7 == 32) {
            return f3 == 0 ? 28 : f3 == 5 ? 34 : -1;
        }
        return f7 == 1 ? 37 + f3 : -1;
    }

    private static int[] of(int kind, int d, int a, int b, int i) {
        return kind < 0 ? null : new int[] {kind, d, a, b, i};
    }

    private static int[] shortParts(int h) {
        switch (h & 3) {
            case 0:
                return quarter0(h);
            case 1:
                return quarter1(h);
            default:
                return quarter2(h);
        }
    }

    /** Bit from of h, moved to bit to. */
    private static int move(int h, int from, int to) {
        return (h >>> from & 1) << to;
    }

    private static int[] quarter0(int h) {
        int low = 8 + (h >>> 2 & 7);
        int high = 8 + (h >>> 7 & 7);
        int i = (h >>> 10 & 7) << 3 | move(h, 6, 2) | move(h, 5, 6);
        switch (h >>> 13) {
            case 0:
                int stack = (h >>> 11 & 3) << 4 | (h >>> 7 & 15) << 6 | move(h, 6, 2) | move(h, 5, 3);
                return of(stack == 0 ? -1 : 48, low, NO, NO, stack);
            case 2:
                return of(49, low, high, NO, i);
            case 6:
                return of(50, NO, high, low, i);
            default:
                return null;
        }
    }

    private static int[] quarter1(int h) {
        int d = h >>> 7 & 31;
        int six = (h << 19 >> 31) << 5 | h >>> 2 & 31;
        int jump = (h << 19 >> 31) << 11 | move(h, 11, 4) | (h >>> 9 & 3) << 8 | move(h, 8, 10) | move(h, 7, 6)
            | move(h, 6, 7) | (h >>> 3 & 7) << 1 | move(h, 2, 5);
        int branch = (h << 19 >> 31) << 8 | (h >>> 10 & 3) << 3 | (h >>> 5 & 3) << 6 | (h >>> 3 & 3) << 1 | move(h, 2, 5);
        switch (h >>> 13) {
            case 0:
                if (h == 1) {
                    return of(51, NO, NO, NO, NO);
                }
                return of(d == 0 || six == 0 ? -1 : 52, d, NO, NO, six);
            case 1:
                return of(53, NO, NO, NO, jump);
            case 2:
                return of(d == 0 ? -1 : 54, d, NO, NO, six);
            case 3:
                if (d == 2) {
                    int stack = (h << 19 >> 31) << 9 | move(h, 6, 4) | move(h, 5, 6) | (h >>> 3 & 3) << 7 | move(h, 2, 5);
                    return of(stack == 0 ? -1 : 55, NO, NO, NO, stack);
                }
                return of(d == 0 || six == 0 ? -1 : 56, d, NO, NO, six & 0xfffff);
            case 4:
                return arithmetic(h, 8 + (d & 7), six);
            case 5:
                return of(64, NO, NO, NO, jump);
            default:
                return of(59 + (h >>> 13), NO, 8 + (d & 7), NO, branch);
        }
    }

    private static int[] arithmetic(int h, int d, int six) {
        boolean upper = (h >>> 12 & 1) != 0;
        int group = h >>> 10 & 3;
        if (group < 2) {
            return of(upper || six == 0 ? -1 : 57 + group, d, NO, NO, six);
        }
        if (group == 2) {
            return of(59, d, NO, NO, six);
        }
        return of(upper ? -1 : 60 + (h >>> 5 & 3), d, NO, 8 + (h >>> 2 & 7), NO);
    }

    private static int[] quarter2(int h) {
        int d = h >>> 7 & 31;
        int b = h >>> 2 & 31;
        boolean upper = (h >>> 12 & 1) != 0;
        switch (h >>> 13) {
            case 0:
                return of(upper || d == 0 || b == 0 ? -1 : 67, d, NO, NO, b);
            case 2:
                return of(d == 0 ? -1 : 68, d, NO, NO, move(h, 12, 5) | (h >>> 4 & 7) << 2 | (h >>> 2 & 3) << 6);
            case 4:
                if (d == 0) {
                    return of(upper && b == 0 ? 71 : -1, NO, NO, NO, NO);
                }
                if (b == 0) {
                    return of(upper ? 72 : 69, NO, d, NO, NO);
                }
                return of(upper ? 73 : 70, d, NO, b, NO);
            case 6:
                return of(74, NO, NO, b, (h >>> 9 & 15) << 2 | (h >>> 7 & 3) << 6);
            default:
                return null;
        }
    }

    /** The long word's {kind, d, a, b, i} for those of a legal short one, zeros for parts it does not have. */
    static int[] behind(int[] p) {
        int d = p[1];
        int a = p[2];
        int b = p[3];
        int i = p[4];
        switch (p[0]) {
            case 48: return new int[] {18, d, 2, 0, i};
            case 49: return new int[] {12, d, a, 0, i};
            case 50: return new int[] {17, 0, a, b, i};
            case 51: return new int[] {18, 0, 0, 0, 0};
            case 52: return new int[] {18, d, d, 0, i};
            case 53: return new int[] {2, 1, 0, 0, i};
            case 54: return new int[] {18, d, 0, 0, i};
            case 55: return new int[] {18, 2, 2, 0, i};
            case 56: return new int[] {0, d, 0, 0, i};
            case 57: return new int[] {25, d, d, 0, i};
            case 58: return new int[] {26, d, d, 0, i};
            case 59: return new int[] {23, d, d, 0, i};
            case 60: return new int[] {28, d, d, b, 0};
            case 61: return new int[] {32, d, d, b, 0};
            case 62: return new int[] {35, d, d, b, 0};
            case 63: return new int[] {36, d, d, b, 0};
            case 64: return new int[] {2, 0, 0, 0, i};
            case 65: return new int[] {4, 0, a, 0, i};
            case 66: return new int[] {5, 0, a, 0, i};
            case 67: return new int[] {24, d, d, 0, i};
            case 68: return new int[] {12, d, 2, 0, i};
            case 69: return new int[] {3, 0, a, 0, 0};
            case 70: return new int[] {27, d, 0, b, 0};
            case 71: return new int[] {47, 0, 0, 0, 0};
            case 72: return new int[] {3, 1, a, 0, 0};
            case 73: return new int[] {27, d, d, b, 0};
            default: return new int[] {17, 0, 2, b, i};
        }
    }

    /** The long word with these parts, for the kinds that have a short one. */
    static int longWord(int[] p) {
        int d = p[1] << 7;
        int a = p[2] << 15;
        int b = p[3] << 20;
        int i = p[4];
        switch (p[0]) {
            case 0: return 0x37 | d | i << 12;
            case 2: return 0x6f | d | move(i, 20, 31) | (i >>> 1 & 0x3ff) << 21 | move(i, 11, 20) | (i >>> 12 & 0xff) << 12;
            case 3: return 0x67 | d | a | i << 20;
            case 4: return 0x63 | a | b | branchBits(i);
            case 5: return 0x1063 | a | b | branchBits(i);
            case 12: return 0x2003 | d | a | i << 20;
            case 17: return 0x2023 | a | b | (i & 31) << 7 | (i >>> 5 & 0x7f) << 25;
            case 18: return 0x13 | d | a | i << 20;
            case 23: return 0x7013 | d | a | i << 20;
            case 24: return 0x1013 | d | a | i << 20;
            case 25: return 0x5013 | d | a | i << 20;
            case 26: return 0x40005013 | d | a | i << 20;
            case 27: return 0x33 | d | a | b;
            case 28: return 0x40000033 | d | a | b;
            case 32: return 0x4033 | d | a | b;
            case 35: return 0x6033 | d | a | b;
            case 36: return 0x7033 | d | a | b;
            default: return 0x100073;
        }
    }

    private static int branchBits(int i) {
        return move(i, 12, 31) | (i >>> 5 & 0x3f) << 25 | (i >>> 1 & 15) << 8 | move(i, 11, 7);
    }
}
