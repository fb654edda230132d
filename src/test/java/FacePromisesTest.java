/** Promises 1 to 8: the face, call by call. */
public final class FacePromisesTest {
    public static void main(String[] args) {
        aNewObject();
        bandsChangeNothing();
        tape();
        submit();
        submitGoesOn();
        conclude();
        concludeForgets();
        seenFile();
        status();
        Tester.end();
    }

    private static void aNewObject() {
        int[][] dpis = {{Integer.MIN_VALUE, 75}, {0, 75}, {75, 75}, {149, 75}, {150, 150}, {299, 150}, {300, 300},
            {301, 300}, {Integer.MAX_VALUE, 300}};
        for (int[] d : dpis) {
            new Tester(d[0], 1).status(0, d[1]);
        }
        int[] first = {75, 0, 0, 0, 0, 0, 0, 0, 4500, 2, 0, 0, 0, 0, -1, -1, 0, 0, 0, 0, 0, -1, 0, 0, 0, 0};
        Tester t = new Tester(75, 16);
        for (int which = 0; which < first.length; which++) {
            t.status(which, first[which]);
        }
        Tester.due("bytesAt(0)", t.x.bytesAt(0), 0);
        Tester.due("sheetOf(0, 0)", t.sheetOf(0, 0), Tester.INDEX);
        Tester.due("printed(0, 0, 0)", t.x.printed(0, 0, 0), 0);
        Tester.due("conclude()", t.conclude(), 0);
        Tester.due("bytesAt(0)", t.x.bytesAt(0), 0x49492A0000000000L);
        t.status(22, 8).status(23, 0).status(24, 1);
    }

    private static void bandsChangeNothing() {
        String stream = Tester.plainFont(1, 1) + Tester.glyph(1, 'A', -2, 5, 9, 4, 900, 255, 128, 15, 0, 240, 128, 1, 1)
                + "\33&l1OAA\33*p50x90YA\33*c100a60b30g2P\33*t100R\33*r1A\33*b3W\252\17\1\33*b3m2W\0\377\33*rC\33*c4g3P\f"
                + "\33&l26a2OAAAA\33*c5000a5000b3P";
        FreshPrinter one = null;
        for (int band : new int[] {1, Integer.MIN_VALUE, -1, 0, 2, 3, 7, 16, 824, 825, 826, 1023, 1024, 1025, 5000, Integer.MAX_VALUE}) {
            Tester t = new Tester(75, band);
            t.stream(stream);
            t.conclude();
            one = one == null ? t.x : one;
            for (int k = 0; k <= one.status(22) / 8; k++) {
                Tester.due("bytesAt(" + k + ") with band " + band, t.x.bytesAt(k), one.bytesAt(k));
            }
        }
    }

    private static void tape() {
        Tester t = new Tester(75, 16);
        Tester.due("tape", t.tape(0x41420D43, 0x2020200A, 0x41414141, 0x0D414141, 0x0A410D41) ? 1 : 0, 1);
        t.status(1, 20);
        t.submit(0, 20);
        t.at(720, 4500 + 2400).status(1, 0);
        t.tape(-1, -1, -1, -1, -1);
        t.submit(0, 3);
        t.at(720 * 4, 6900);
        for (int i = 0; i < 400; i++) {
            Tester.due("tape", t.tape(0, 0, 0, 0, i == 399 ? 0x41 : 0) ? 1 : 0, 1);
        }
        t.status(1, 8000);
        Tester.due("submit", t.submit(0, 20), 0);
        t.status(1, 0).at(720 * 5, 6900);
        Tester.due("tape", t.tape(1, 2, 3, 4, 5) ? 1 : 0, 1);
    }

    private static void submit() {
        Tester t = new Tester(75, 16);
        for (int n : new int[] {Integer.MIN_VALUE, -1, 0, 21, Integer.MAX_VALUE}) {
            Tester.due("submit(0, n)", t.submit(0, n), Tester.ARGUMENT);
        }
        for (int kind : new int[] {Integer.MIN_VALUE, -1, 2, Integer.MAX_VALUE}) {
            Tester.due("submit(kind, 1)", t.submit(kind, 1), Tester.ARGUMENT);
        }
        t.tape(0x41414141, 0x0C0C0C0C, 0, 0, 0);
        Tester.due("submit(0, 0)", t.submit(0, 0), Tester.ARGUMENT);
        t.status(1, 20);
        Tester.due("submit(0, 6)", t.submit(0, 6), 2);
        t.status(1, 0).status(2, 2).at(2880, 4500);
        for (int n = 1; n <= 20; n++) {
            Tester.due("submit of an empty tape", t.submit(0, n), 2);
        }
        t.status(3, 0);
        Tester.due("an empty picture file", t.submit(1, 20), 2);
        t.status(3, 1);
        t.tape(0x0C000000, 0, 0, 0, 0);
        Tester.due("submit of a failed job", t.submit(0, 1), Tester.STATE);
        Tester.due("submit of a failed job", t.submit(1, 1), Tester.STATE);
        Tester.due("the first exception", t.submit(2, 1), Tester.ARGUMENT);
        Tester.due("the first exception", t.submit(1, 0), Tester.ARGUMENT);
        t.status(1, 20).status(2, 2).status(3, 1);
        Tester.due("conclude", t.conclude(), 1);
        t.status(1, 0).status(3, 0).status(23, 2);
        Tester.due("submit", t.submit(0, 1), 0);
    }

    private static void submitGoesOn() {
        Tester t = new Tester(75, 16);
        t.stream("\33").stream("&").stream("a").stream("+1").stream("2.").stream("5").stream("C");
        t.at(9000, 4500);
        t.stream("\33&p5XA").stream("\33\33").stream("BC\r").at(0, 4500);
        t.stream("\33&f3y0XAB\33&f").status(18, 1).stream("1").status(18, 1).stream("X").status(18, 0).status(17, 2);
    }

    private static void conclude() {
        Tester t = new Tester(150, 16);
        t.stream("\33&l3a1o2X\33&k5H\33&l4C\33&s0C\33&k2G\16\33&a9L\33&f0S A\33*c7d9E\33*t150R\33*r8s9T\33*b3M\33*r1A\33*b2W\0\1");
        t.status(9, 3).status(10, 1).status(11, 1).status(20, 1).status(21, 1).status(4, 1);
        Tester.due("conclude", t.conclude(), 0);
        t.status(23, 2).at(0, 4500).status(9, 2).status(10, 0).status(11, 0).status(20, 0).status(21, -1);
        Tester.due("across", t.sheetOf(1, 0), 1275);
        Tester.due("down", t.sheetOf(1, 1), 2100);
        // H, V, WRAP, LINE END, LEFT, STACK and COPIES are as at first, too
        t.stream("A\n").at(720, 5700).stream("\r").at(0, 5700).stream("\33&f1S").at(0, 5700);
        t.stream("\33&a80CA").at(57600, 5700).stream("\33*b1W\1").status(21, 1).status(5, 1);
        Tester.due("conclude", t.conclude(), 0);
        t.status(23, 1);
        Tester.due("a job without marks", t.stream("   \33E\33&l1A").conclude(), 0);
        t.status(22, 8).status(23, 0).status(24, 3);
    }

    private static void concludeForgets() {
        Tester t = new Tester(75, 16);
        t.stream("\33&a5").conclude();
        t.stream("C").at(720, 4500).conclude();
        t.stream("\33&p9XAB").conclude();
        t.stream("\n").at(0, 5700).conclude();
        t.stream("\33&f1y0XABC").status(18, 1).conclude();
        t.status(18, 0).stream("AB\33&f1X").at(1440, 4500).status(16, 0).conclude();
        t.stream("\33&f1y0XABC\33&f1X\33&f1y10X\33&f2x").conclude();
        t.status(16, 1).status(17, 3).stream("\33&f2X").at(0, 4500).stream("\33&f1y2X").at(2160, 4500).status(19, 3);
        t.conclude();
        t.status(19, 0).status(16, 1);
        t.stream(Tester.plainFont(3, 1) + Tester.plainFont(4, 1) + "\33*c5F").status(14, 3).status(12, 2).conclude();
        t.status(12, 1).status(14, 4).status(15, 4);
        t.stream("\33(sp5H\33)4X\33*c30a30b30G").conclude();
        t.stream("\33*c2P\33(s0b3S").status(4, 0).status(15, 4);
        t.tape(1, 2, 3, 4, 5);
        t.conclude();
        t.status(1, 0);
    }

    private static void seenFile() {
        Tester t = new Tester(75, 16);
        t.stream("\33*c10a4b0P\f\33&l26A\f");
        t.status(22, 0);
        Tester.due("bytesAt ahead of the end", t.x.bytesAt(0), 0);
        t.conclude();
        int[][] want = {{637, 825, 8}, {620, 876, -1}};
        for (int p = 0; p < 2; p++) {
            for (int w = 0; w < 3; w++) {
                if (want[p][w] >= 0) {
                    Tester.due("sheetOf(" + p + ", " + w + ")", t.sheetOf(p, w), want[p][w]);
                }
            }
        }
        for (int[] wrong : new int[][] {{-1, 0}, {2, 0}, {0, -1}, {0, 4}, {Integer.MAX_VALUE, 0}, {Integer.MIN_VALUE, 3}}) {
            Tester.due("sheetOf", t.sheetOf(wrong[0], wrong[1]), Tester.INDEX);
        }
        Tester.due("pages follow", t.sheetOf(1, 2) - (8 + t.sheetOf(0, 3) + t.sheetOf(0, 3) % 2 + 142), 0);
        // a rule of ten by four dots at 300 dpi, so of three by one at 75, at dot 18, line 46
        t.dots(0, 46, 16, "..###...").dots(0, 45, 0, ".".repeat(64)).dots(0, 47, 0, ".".repeat(64));
        Tester.due("printed", t.x.printed(0, 46, 0), 0x00003800_00000000L);
        int[][] none = {{-1, 46, 0}, {2, 46, 0}, {0, -1, 0}, {0, 825, 0}, {0, 46, -1}, {0, 46, 10}, {0, 46, 1 << 26}, {0, 46, 1 << 28},
            {0, 46, Integer.MIN_VALUE}, {Integer.MIN_VALUE, Integer.MAX_VALUE, Integer.MAX_VALUE}};
        for (int[] n : none) {
            Tester.due("printed where there is none", t.x.printed(n[0], n[1], n[2]), 0);
        }
        Tester.due("bytesAt(0)", t.x.bytesAt(0) >>> 32, 0x49492A00L);
        int bytes = t.x.status(22);
        Tester.due("behind the end", t.x.bytesAt((bytes + 7) / 8), 0);
        for (int k : new int[] {-1, Integer.MIN_VALUE, Integer.MAX_VALUE, 1 << 29, -(1 << 29)}) {
            Tester.due("bytesAt(" + k + ")", t.x.bytesAt(k), 0);
        }
        t.stream("\f");
        Tester.due("the file stays until the next end", t.x.status(22), bytes);
        t.conclude();
        t.status(23, 1).status(24, 2);
    }

    private static void status() {
        Tester t = new Tester(300, 16);
        for (int which : new int[] {Integer.MIN_VALUE, -1, 26, 27, Integer.MAX_VALUE}) {
            t.status(which, SheetPrinter.NONE);
        }
        t.stream(Tester.plainFont(9, 1) + Tester.plainFont(8, 0) + Tester.glyph(9, 'A', 0, 0, 9, 2, 500, 1, 2, 3, 4));
        t.status(12, 2).status(13, 1).status(14, 8).status(15, 8);
        t.stream("\33(9X\33&f7y0XAA\33&f1X\33&f2x2X\16\33&l1o6A").status(11, 1).status(10, 1).status(9, 6).status(14, 9);
        t.status(4, 0).status(16, 1).status(17, 2).status(19, 4).status(2, 1);
        t.stream("\17AA\33*b1W\1").status(4, 3).status(5, 9).status(6, 0).status(20, 1).status(21, 1).at(1000, 4500);
        t.stream("\f\f").status(2, 3).status(4, 0).status(5, 0).status(25, 0);
        Tester.due("NONE", SheetPrinter.NONE, -1);
        t.conclude();
        t.status(22, 8 + (int) (t.sheetOf(0, 3) + 1) / 2 * 2 + 2 * ((int) (t.sheetOf(1, 3) + 1) / 2 * 2) + 3 * 142
                + ((int) (t.sheetOf(2, 3) - t.sheetOf(1, 3)))).status(23, 3).status(24, 1);
    }
}
