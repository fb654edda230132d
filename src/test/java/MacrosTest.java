/** Terms: macros, and what the X's of a sequence say. */
public final class MacrosTest {
    private static final String ENDS = "\33&f1X";

    public static void main(String[] args) {
        reading();
        readingEnds();
        room();
        doing();
        calling();
        sequenceEnds();
        escapeEnds();
        manySaid();
        within();
        managing();
        bytesHad();
        failing();
        Tester.end();
    }

    private static Tester fresh() {
        return new Tester(75, 16);
    }

    private static String macro(int id, String bytes) {
        return "\33&f" + id + "y0X" + bytes + ENDS;
    }

    private static void reading() {
        fresh().stream("\33&f7y0X").status(18, 1).stream("AB\f\33E").status(18, 1).status(16, 0).at(0, 4500).stream(ENDS)
                .status(18, 0).status(16, 1).status(17, 5).status(2, 0).at(0, 4500);
        fresh().stream(macro(0, "")).status(16, 1).status(17, 0).stream("\33&f2x3X").at(0, 4500).status(19, 0);
        fresh().stream(macro(32767, "A") + "\33&f99999y2X").at(720, 4500).status(19, 1);
        // one that was there goes at once, also if the new one never ends
        Tester t = fresh().stream(macro(5, "AAA")).status(17, 3).stream("\33&f0X").status(16, 0).status(17, 0).stream("BB");
        t.conclude();
        t.status(16, 0);
        fresh().stream(macro(5, "AAA") + macro(5, "B")).status(16, 1).status(17, 1);
        // a new one is not permanent
        t = fresh().stream(macro(5, "AAA") + "\33&f10X" + macro(6, "BB") + "\33&f5y10X" + macro(5, "C"));
        t.conclude();
        t.status(16, 0);
        // a second n 0 of a sequence begins anew
        fresh().stream(macro(1, "A") + macro(2, "B") + "\33&f1y0x2y0XCC" + ENDS).status(16, 1).status(17, 2).stream("\33&f1y2X").at(0, 4500)
                .stream("\33&f2y2X").at(1440, 4500);
        fresh().stream("\33&f-3y-5XA" + ENDS).status(16, 1).stream("\33&f0y2X").at(720, 4500);
    }

    private static void readingEnds() {
        fresh().stream("\33&f0XA\33&f1xB\33&f2X\33&f01X\33&1X\33\33&f1X").status(18, 0).status(17, 23).status(16, 1);
        fresh().stream("\33&f0X\33").stream("&").stream("f").stream("1").status(18, 1).stream("X").status(18, 0).status(17, 0).status(16, 1);
        fresh().stream("\33&f0X\33&\33&f1\33&f1X").status(18, 0).status(17, 6);
        fresh().stream("\33&f0X\33&f1XA").at(720, 4500);
    }

    private static void room() {
        Tester t = fresh();
        for (int i = 0; i < 33; i++) {
            t.stream(macro(i, "A"));
        }
        t.status(16, 32).status(17, 32).stream("\33&f32y2X").at(0, 4500).stream("\33&f31y2X").at(720, 4500);
        t.stream(macro(31, "BB")).status(16, 32).status(17, 33);
        // when reading began there was no room, when it ends there is
        t.stream("\33&f40y0x1y8XCCC" + ENDS).status(16, 32).status(17, 35).stream("\33&f40y2X").at(2880, 4500);
        // one in whose place a macro comes takes no room
        fresh().stream(macro(1, "A".repeat(4000)) + macro(1, "A".repeat(4001))).status(16, 1).status(17, 4001);
    }

    private static void doing() {
        fresh().stream(macro(1, "A\nB") + "\33&f2X").at(1440, 5700).status(19, 3);
        fresh().stream(macro(1, "\33&a3L\16\33&l1O") + "\33&f2X\r").at(0, 4500).status(11, 1).status(10, 1);
        fresh().stream(macro(1, "A\33&a+5") + "\33&f2XC").at(4320, 4500);
        fresh().stream(macro(1, "\33&p3XA") + "\33&f2X\n\33B").at(2880, 4500);
        fresh().stream(macro(1, "\33&p3XA") + "\33&f2x2X\n\33B").at(5040, 5700).status(19, 12);
        fresh().stream("\33&f2X\33&f3X").at(0, 4500).status(19, 0);
        // the bytes are those it had
        fresh().stream(macro(1, "A\33&f8XB") + "\33&f2X").at(1440, 4500).status(16, 0);
        fresh().stream(macro(1, "A\33&f6XB\33&f2XC") + macro(2, "DD") + "\33&f1y2X").at(2160, 4500).status(16, 0);
    }

    private static void calling() {
        String all = "\33&a5l9M\33&k5h3G\33&l6c2e3f1L\33&s0C\16\33&f0S\33*p9x9Y";
        Tester t = fresh().stream("\33&a2c2R\33&f0S\33&a1c" + macro(1, all));
        t.stream("\33&a3c3R" + "\33&f3X").at(2160, 8100).status(11, 0);
        t.stream("\33&f1S").at(1440, 6900).stream("\33&f1S\t").at(5760, 6900).stream("\r\n").at(0, 8100).stream("\33&a0R").at(0, 4500);
        t.stream("\33&a79CAA").at(57600, 4500);
        // size, orientation and copies stay, and what is not of the state
        t = fresh().stream(macro(1, "\33&l3a1o2X\33*c5D\33*c9a9B\33*t300R") + "\33&f3X").status(9, 3).status(10, 1).at(0, 4500);
        t.stream(Tester.plainFont(1, 0).substring(5) + "\33*c0P\f").status(14, 5).status(2, 2);
        // places are brought to the page
        fresh().stream("\33&l6A\33*p9999x9999Y\33&a100M" + macro(1, "\33&l1A") + "\33&f3X").at(48600, 75600).stream("\33&a0CA").at(720, 75600)
                .stream("\33&a67CA").at(48240, 75600);
        fresh().stream("\33&l6A\33&a100m80L" + macro(1, "\33&l1A") + "\33&f3X").at(48600, 4500).stream("\33&a0C\r").at(48600, 4500);
        fresh().stream(macro(1, "AB") + "\33&f3X").at(0, 4500).stream("\33E").status(2, 1);
        fresh().stream(macro(1, "AB\33&a9") + "\33&f3XC").at(6480, 4500);
        fresh().stream(macro(1, "\33E\33&l8D") + "\33&l12D\33&f3X\n").at(0, 5100);
    }

    private static void sequenceEnds() {
        String a = macro(1, "A");
        fresh().stream(a + "\33&f2x").at(0, 4500).stream("Z").at(720, 4500);
        fresh().stream(a + "\33&f2x3WXYZ").at(720, 4500);
        fresh().stream(a + "\33&f2x3wXY").at(0, 4500).stream("Z").at(0, 4500).stream("S").at(720, 4500);
        fresh().stream(a + "\33&f2x_").at(720, 4500).stream("B").at(1440, 4500);
        fresh().stream(a + "\33&f2x\n").at(720, 4500);
        fresh().stream(a + "\33&f2x1_").at(720, 4500);
        fresh().stream(a + "\33&f2x0s").at(0, 4500).stream("1S").at(720, 4500);
        fresh().stream(a + macro(2, "B\n") + "\33&f1y2x2y2X").at(1440, 5700);
        fresh().stream(a + macro(2, "B\n") + "\33&f1y2x2Y").at(720, 4500);
    }

    private static void escapeEnds() {
        String a = macro(1, "A");
        fresh().stream(a + "\33&f2x\33").at(720, 4500).stream("&a+1C").at(1440, 4500);
        fresh().stream(a + "\33&f2x1\33&a+1C").at(1440, 4500);
        // the escape comes behind the bytes of the macro
        fresh().stream(macro(1, "\33&p2XA") + "\33&f2x\33B").at(2160, 4500);
        fresh().stream(macro(1, "\33") + "\33&f2x\33&a+1C").at(720, 4500);
        // and is the first byte of one that is read
        fresh().stream("\33&f0x\33&f1XA").status(18, 0).status(16, 1).status(17, 0).at(720, 4500);
        fresh().stream("\33&f0x\33EA" + ENDS).status(17, 3);
        // one that ends amid a sequence that does it again: until no more bytes may come
        Tester t = fresh().stream(macro(1, "\33&f1y2x") + "\33&f2X\33E");
        t.status(19, 65536 / 7 * 7).status(18, 0);
    }

    private static void manySaid() {
        String a = macro(1, "A");
        fresh().stream(a + "\33&f" + "2x".repeat(8) + "Y").at(5760, 4500);
        fresh().stream(a + "\33&f" + "2x".repeat(9) + "S").at(5760, 4500);
        fresh().stream(a + "\33&f1x4x5x11x99x1x1x1x1y2x2X").at(0, 4500);
        fresh().stream(a + "\33&f1x4x5x11x99x1x1x1y2x2X\33&f2X").at(720 * 2, 4500);
        fresh().stream(a + "\33&f1x4x5x11x99x1x2x1y2x2X").at(1440, 4500);
    }

    private static void within() {
        String three = macro(1, "A\33&f2y2X\33&f1y") + macro(2, "B\33&f3y2X") + macro(3, "C");
        fresh().stream(three + "\33&f3y2X").at(720, 4500);
        fresh().stream(three + "\33&f2y2X").at(1440, 4500).status(19, 9);
        fresh().stream(three + "\33&f1y2X\33&f1y").at(1440, 4500);
        // none is read within a macro; but an n 0 whose sequence ends behind it is
        fresh().stream(macro(1, "\33&f2y0XA\33&f3y0x4X") + "\33&f2X").status(18, 0).at(720, 4500);
        fresh().stream(macro(1, "\33&f2y0x") + "\33&f2XX").status(18, 1);
        fresh().stream(macro(1, "A") + macro(2, "\33&f1y0X\33&f2XB") + "\33&f2y2X").status(16, 2).at(1440, 4500);
        // what macros do while one is read is not of it
        fresh().stream(macro(1, "AB") + "\33&f2y0x1y2XCC" + ENDS).at(1440, 4500).status(17, 4);
        fresh().stream(macro(1, "A\33&a5") + "\33&f2y0x1y2XCC" + ENDS + "C").at(3600, 4500).status(17, 7);
        // a call within a call gives back twice
        fresh().stream(macro(1, "A\33&f2y3XB") + macro(2, "\33&a40C\nC\16") + "\33&f1y3XD").at(720, 4500).status(11, 0).status(4, 0);
        fresh().stream(macro(1, "A\33&f2y3X") + macro(2, "\33&a40C\nC\16") + "\33&f1y2XD").at(1440, 4500);
        fresh().stream(macro(1, "A\33&f2y2X") + macro(2, "\33&a40C\nC\16") + "\33&f1y3XD").at(720, 4500);
    }

    private static void managing() {
        String two = macro(1, "A") + "\33&f10X" + macro(2, "BB") + macro(3, "CCC");
        fresh().stream(two + "\33&f6X").status(16, 0).status(17, 0);
        fresh().stream(two + "\33&f7X").status(16, 1).status(17, 1);
        fresh().stream(two + "\33&f2y8X").status(16, 2).status(17, 4).stream("\33&f3y2X\33&f1y2X").at(2880, 4500);
        fresh().stream(two + "\33&f9y8x9x10X").status(16, 3);
        fresh().stream(two + "\33&f1y9x7X").status(16, 0);
        fresh().stream(two + "\33&f2y10x7X").status(16, 2).status(17, 3);
        fresh().stream(two + "\33&f1X\33&f4X\33&f5X\33&f11X").status(16, 3).status(18, 0);
        Tester t = fresh().stream(two);
        t.conclude();
        t.status(16, 1).status(17, 1).stream("\33&f2X").at(0, 4500).stream("\33&f1y2X").at(720, 4500);
        t.stream("\33E\33&f9X");
        t.conclude();
        t.status(16, 0);
    }

    private static void bytesHad() {
        Tester t = fresh().stream(macro(1, "\0".repeat(4096)) + "\33&f2x2x2x2x2x2x2x2X\33&f2x2x2x2x2x2x2X").status(19, 61440);
        t.stream("\33&f2X").status(19, 65536).stream("\33&f3X").status(19, 65536);
        t.stream("\33&f6X" + macro(2, "") + macro(3, "A") + "\33&f2y2x3y2X").status(19, 65536).at(0, 4500);
        t.conclude();
        t.status(19, 0).stream(macro(1, "A") + "\33&f2X").status(19, 1).at(720, 4500);
        t = fresh().stream(macro(1, "\0".repeat(5459)) + macro(2, "AAA") + macro(3, "BBBB") + "\33&f1y2x2x2x2x2x2x2x2X\33&f2x2x2x2X").status(19, 65508);
        t.stream("\33&f3y2x2x2x2x2x2X").status(19, 65532).stream("\33&f2y2X").status(19, 65535).at(27 * 720, 4500);
        t.stream("\33&f2y3X").at(27 * 720, 4500).status(19, 65535);
    }

    private static void failing() {
        // the state is not given back by a call in which the job fails
        Tester t = fresh().stream(macro(1, "\33&a9CA\n\fB\16") + "\f".repeat(40) + "\33&f3X");
        t.status(3, 20).at(7200, 4500).status(11, 0).status(2, 40);
        t.conclude();
        t.status(23, 40).stream("B").at(720, 4500);
        t = fresh().stream(macro(1, "\f\f") + "\f".repeat(39) + "\33&f2x2x1y6X");
        t.status(3, 20).status(19, 2).status(16, 1);
    }
}
