/** Terms, SHORT kinds: the ends of their immediates, the words beside them, and for which long ones they stand. */
public final class ShortKindEdgesTest {
    public static void main(String[] args) {
        addi4spn();
        lw();
        sw();
        nop();
        addi();
        jal();
        li();
        addi16sp();
        lui();
        srli();
        srai();
        andi();
        twoShortRegisters();
        j();
        beqz();
        bnez();
        slli();
        lwsp();
        jr();
        mv();
        ebreak();
        jalr();
        add();
        swsp();
        otherTops();
        Check.end();
    }

    private static void addi4spn() {
        Check.sentence("48 c.addi4spn, i 4 .. 1020, a multiple of 4 = addi with a 2");
        Ends.of(48, 12, 0, 0).least(4, 0x0050).greatest(1020, 0x1ff0).step(4).hold();
        for (int d = 0; d < 8; d++) {
            Edges.illegal(d << 2);
        }
        Edges.stands(0x0050, 0x00410613);
        Edges.stands(0x1ff0, 0x3fc10613);
        Edges.noShort(0x40010613, 0x00210613, 0xffc10613, 0x00410813, 0x00410393);
    }

    private static void lw() {
        Check.sentence("49 c.lw, i 0 .. 124, a multiple of 4 = lw");
        Ends.of(49, 12, 13, 0).least(0, 0x4290).greatest(124, 0x5ef0).step(4).hold();
        Edges.stands(0x4290, 0x0006a603);
        Edges.stands(0x5ef0, 0x07c6a603);
        Edges.noShort(0x0806a603, 0xffc6a603, 0x0026a603, 0x0006a803, 0x00082603);
    }

    private static void sw() {
        Check.sentence("50 c.sw, likewise = sw");
        Ends.of(50, 0, 13, 12).least(0, 0xc290).greatest(124, 0xdef0).step(4).hold();
        Edges.stands(0xc290, 0x00c6a023);
        Edges.stands(0xdef0, 0x06c6ae23);
        Edges.noShort(0x08c6a023, 0xfec6ae23, 0x06c6af23);
    }

    private static void nop() {
        Check.sentence("51 c.nop 0001 = addi with d 0, a 0");
        Edges.word(51, 0, 0, 0, 0, 0x0001);
        Edges.kind(0x0001, 51);
        Edges.stands(0x0001, 0x00000013);
        // with an immediate it is neither c.nop nor c.addi
        Edges.illegal(0x0005, 0x1001, 0x107d);
        Edges.noShort(0x00100013, 0xfff00013);
    }

    private static void addi() {
        Check.sentence("52 c.addi, i -32 .. 31, not 0 = addi with a as d");
        Ends.of(52, 12, 0, 0).least(-32, 0x1601).greatest(31, 0x067d).hold()
            .inside(-1, 0x167d).inside(1, 0x0605).outside(0);
        Edges.illegal(0x0601, 0x0f81);
        Edges.stands(0x1601, 0xfe060613);
        Edges.stands(0x067d, 0x01f60613);
        Edges.stands(0x167d, 0xfff60613);
        Edges.stands(0x0605, 0x00160613);
        Edges.noShort(0xfdf60613, 0x02060613);
    }

    private static void jal() {
        Check.sentence("53 c.jal, i even, -2048 .. 2046 = jal with d 1");
        Ends.of(53, 0, 0, 0).least(-2048, 0x3001).greatest(2046, 0x2ffd).step(2).hold().inside(0, 0x2001);
        Edges.stands(0x3001, 0x801ff0ef);
        Edges.stands(0x2ffd, 0x7fe000ef);
        Edges.noShort(0xffeff0ef, 0x001000ef, 0x004002ef);
    }

    private static void li() {
        Check.sentence("54 c.li, i -32 .. 31 = addi with a 0");
        Ends.of(54, 12, 0, 0).least(-32, 0x5601).greatest(31, 0x467d).hold().inside(0, 0x4601);
        Edges.stands(0x5601, 0xfe000613);
        Edges.stands(0x467d, 0x01f00613);
        Edges.stands(0x4601, 0x00000613);
        Edges.noShort(0xfdf00613, 0x02000613, 0x00100013);
    }

    private static void addi16sp() {
        Check.sentence("55 c.addi16sp, i a multiple of 16, -512 .. 496, not 0 = addi with d 2, a 2");
        Ends.of(55, 0, 0, 0).least(-512, 0x7101).greatest(496, 0x617d).step(16).hold()
            .inside(-16, 0x717d).inside(16, 0x6141).outside(0);
        Edges.illegal(0x6101);
        Edges.stands(0x7101, 0xe0010113);
        Edges.stands(0x617d, 0x1f010113);
        Edges.longer(0x6141, 0x01010113);
        Edges.longer(0x717d, 0xff010113);
        Edges.noShort(0xdf010113, 0x20010113, 0x1e810113);
    }

    private static void lui() {
        Check.sentence("56 c.lui, its six bits not 0; i 1 .. 31, 2^20 - 32 .. 2^20 - 1 = lui");
        Ends.of(56, 12, 0, 0).least(1, 0x6605).greatest(31, 0x667d).hold().inside(1048544, 0x7601).inside(1048575, 0x767d);
        Ends.of(56, 12, 0, 0).least(1048544, 0x7601).greatest(1048575, 0x767d).hold()
            .outside(0).outside(-1).outside(-32).outside(524287).outside(524288).outside(63);
        Edges.illegal(0x6601, 0x6f81);
        Edges.stands(0x6605, 0x00001637);
        Edges.stands(0x667d, 0x0001f637);
        Edges.stands(0x7601, 0xfffe0637);
        Edges.stands(0x767d, 0xfffff637);
        Edges.noShort(0x00000637, 0x00020637, 0xfffdf637, 0x00001137, 0x00001037);
    }

    private static void srli() {
        Check.sentence("57 c.srli, i 1 .. 31 = srli with a as d");
        Ends.of(57, 12, 0, 0).least(1, 0x8205).greatest(31, 0x827d).hold();
        Edges.illegal(0x8201, 0x9205, 0x9201);
        Edges.stands(0x8205, 0x00165613);
        Edges.stands(0x827d, 0x01f65613);
        Edges.noShort(0x00065613);
    }

    private static void srai() {
        Check.sentence("58 c.srai, likewise = srai");
        Ends.of(58, 12, 0, 0).least(1, 0x8605).greatest(31, 0x867d).hold();
        Edges.illegal(0x8601, 0x9605, 0x9601);
        Edges.stands(0x8605, 0x40165613);
        Edges.stands(0x867d, 0x41f65613);
        Edges.noShort(0x40065613);
    }

    private static void andi() {
        Check.sentence("59 c.andi, i -32 .. 31 = andi with a as d");
        Ends.of(59, 12, 0, 0).least(-32, 0x9a01).greatest(31, 0x8a7d).hold().inside(0, 0x8a01);
        Edges.stands(0x9a01, 0xfe067613);
        Edges.stands(0x8a7d, 0x01f67613);
        Edges.stands(0x8a01, 0x00067613);
        Edges.noShort(0xfdf67613, 0x02067613, 0x00187813);
    }

    private static void twoShortRegisters() {
        Check.sentence("60 c.sub, 61 c.xor, 62 c.or, 63 c.and: 100 0 11, each with a as d");
        int[] least = {0x8c01, 0x8c21, 0x8c41, 0x8c61};
        int[] greatest = {0x8f9d, 0x8fbd, 0x8fdd, 0x8ffd};
        int[] leastLong = {0x40840433, 0x00844433, 0x00846433, 0x00847433};
        int[] greatestLong = {0x40f787b3, 0x00f7c7b3, 0x00f7e7b3, 0x00f7f7b3};
        for (int n = 0; n < 4; n++) {
            Edges.word(60 + n, 8, 0, 8, 0, least[n]);
            Edges.kind(least[n], 60 + n);
            Edges.stands(least[n], leastLong[n]);
            Edges.word(60 + n, 15, 0, 15, 0, greatest[n]);
            Edges.kind(greatest[n], 60 + n);
            Edges.stands(greatest[n], greatestLong[n]);
            Edges.illegal(least[n] | 0x1000, greatest[n] | 0x1000);
        }
    }

    private static void j() {
        Check.sentence("64 c.j 101, as c.jal = jal with d 0");
        Ends.of(64, 0, 0, 0).least(-2048, 0xb001).greatest(2046, 0xaffd).step(2).hold().inside(0, 0xa001);
        Edges.stands(0xb001, 0x801ff06f);
        Edges.stands(0xaffd, 0x7fe0006f);
        Edges.noShort(0xffeff06f, 0x0010006f);
    }

    private static void beqz() {
        Check.sentence("65 c.beqz, i even, -256 .. 254 = beq with b 0");
        Ends.of(65, 0, 13, 0).least(-256, 0xd281).greatest(254, 0xcefd).step(2).hold().inside(0, 0xc281);
        Edges.stands(0xd281, 0xf00680e3);
        Edges.stands(0xcefd, 0x0e068f63);
        Edges.noShort(0xee068fe3, 0x10068063);
        // beq a3, ra and beq a3, t6 over no distance
        Edges.noShort(0x00168063, 0x01f68063);
    }

    private static void bnez() {
        Check.sentence("66 c.bnez 111, likewise = bne");
        Ends.of(66, 0, 13, 0).least(-256, 0xf281).greatest(254, 0xeefd).step(2).hold().inside(0, 0xe281);
        Edges.stands(0xf281, 0xf00690e3);
        Edges.stands(0xeefd, 0x0e069f63);
        Edges.noShort(0xee069fe3, 0x10069063);
        // bne a3, ra and bne a3, t6 over no distance
        Edges.noShort(0x00169063, 0x01f69063);
    }

    private static void slli() {
        Check.sentence("67 c.slli, i 1 .. 31 = slli with a as d");
        Ends.of(67, 12, 0, 0).least(1, 0x0606).greatest(31, 0x067e).hold();
        Edges.illegal(0x0602, 0x1606, 0x1602, 0x0006);
        Edges.stands(0x0606, 0x00161613);
        Edges.stands(0x067e, 0x01f61613);
        Edges.noShort(0x00061613, 0x00101013);
    }

    private static void lwsp() {
        Check.sentence("68 c.lwsp, i 0 .. 252, a multiple of 4 = lw with a 2");
        Ends.of(68, 12, 0, 0).least(0, 0x4602).greatest(252, 0x567e).step(4).hold();
        Edges.stands(0x4602, 0x00012603);
        Edges.stands(0x567e, 0x0fc12603);
        Edges.noShort(0x10012603, 0xffc12603, 0x0fa12603, 0x00012003);
    }

    private static void jr() {
        Check.sentence("69 c.jr = jalr with d 0, its i 0");
        Edges.word(69, 0, 1, 0, 0, 0x8082);
        Edges.word(69, 0, 31, 0, 0, 0x8f82);
        Edges.stands(0x8082, 0x00008067);
        Edges.stands(0x8f82, 0x000f8067);
        Edges.illegal(0x8002);
        Edges.noShort(0x00208067, 0xfff08067, 0x00108067, 0x00000067);
    }

    private static void mv() {
        Check.sentence("70 c.mv = add with a 0");
        Edges.word(70, 1, 0, 1, 0, 0x8086);
        Edges.word(70, 31, 0, 31, 0, 0x8ffe);
        Edges.stands(0x8086, 0x001000b3);
        Edges.stands(0x8ffe, 0x01f00fb3);
        Edges.illegal(0x8006, 0x807e);
        // add ra, zero, zero; add zero, zero, ra
        Edges.noShort(0x000000b3, 0x00100033);
    }

    private static void ebreak() {
        Check.sentence("71 c.ebreak 9002 = ebreak");
        Edges.word(71, 0, 0, 0, 0, 0x9002);
        Edges.kind(0x9002, 71);
        Edges.stands(0x9002, 0x00100073);
        Edges.noShort(0x00000073, 0x0ff0000f);
    }

    private static void jalr() {
        Check.sentence("72 c.jalr = jalr with d 1, its i 0");
        Edges.word(72, 0, 1, 0, 0, 0x9082);
        Edges.word(72, 0, 31, 0, 0, 0x9f82);
        Edges.stands(0x9082, 0x000080e7);
        Edges.stands(0x9f82, 0x000f80e7);
        Edges.noShort(0xfff080e7, 0x001080e7, 0x000000e7, 0x00008167);
    }

    private static void add() {
        Check.sentence("73 c.add = add with a as d");
        Edges.word(73, 1, 0, 1, 0, 0x9086);
        Edges.word(73, 31, 0, 31, 0, 0x9ffe);
        Edges.stands(0x9086, 0x001080b3);
        Edges.stands(0x9ffe, 0x01ff8fb3);
        Edges.illegal(0x9006, 0x907e);
        // add ra, ra, zero
        Edges.noShort(0x000080b3);
    }

    private static void swsp() {
        Check.sentence("74 c.swsp, i as of c.lwsp, b also 0 = sw with a 2");
        Ends.of(74, 0, 0, 14).least(0, 0xc03a).greatest(252, 0xdfba).step(4).hold();
        Ends.of(74, 0, 0, 0).least(0, 0xc002).greatest(252, 0xdf82).step(4).hold();
        Edges.stands(0xc03a, 0x00e12023);
        Edges.stands(0xdfba, 0x0ee12e23);
        Edges.stands(0xc002, 0x00012023);
        Edges.noShort(0x10e12023, 0xfee12e23);
    }

    private static void otherTops() {
        Check.sentence("a word that is of no kind is ILLEGAL");
        int[] tops = {0x2000, 0x6000, 0x8000, 0xa000, 0xe000, 0x2002, 0x6002, 0xa002, 0xe002};
        for (int top : tops) {
            Edges.illegal(top, top | 0x0298, top | 0x1ffc);
        }
    }
}
