/** Terms: coded lines, the file that is made, picture files and their faults. */
public final class FilesTest {
    private static final String END = PlainPrinter.END;

    public static void main(String[] args) {
        whitePage();
        copiesAndLinks();
        codedLines();
        longRuns();
        headFaults();
        directoryFaults();
        entryFaults();
        pageFaults();
        stripFaults();
        lineFaults();
        goodLines();
        plainPictures();
        strips();
        fineness();
        sizeOfPictures();
        fullFile();
        partsOfAJob();
        Tester.end();
    }

    private static Tester fresh() {
        return new Tester(75, 16);
    }

    private static long number(Tester t, int place, int size) {
        long n = 0;
        for (int i = size - 1; i >= 0; i--) {
            n = n << 8 | t.x.bytesAt((place + i) / 8) >>> 56 - 8 * ((place + i) % 8) & 255;
        }
        return n;
    }

    private static void numbers(Tester t, int place, long[][] want) {
        int at = place;
        for (long[] w : want) {
            Tester.due("the number at " + at, number(t, at, (int) w[0]), w[1]);
            at += (int) w[0];
        }
    }

    private static long[][] directory(int wide, int high, int place, int length, int next) {
        int fine = place + length + (place + length) % 2;
        long[][] e = {{256, 4, wide}, {257, 4, high}, {259, 3, 4}, {262, 3, 0}, {273, 4, place}, {278, 4, high}, {279, 4, length},
            {282, 5, fine}, {283, 5, fine + 8}, {296, 3, 2}};
        long[][] all = new long[2 + 4 * e.length][];
        all[0] = new long[] {2, 10};
        for (int i = 0; i < e.length; i++) {
            all[1 + 4 * i] = new long[] {2, e[i][0]};
            all[2 + 4 * i] = new long[] {2, e[i][1]};
            all[3 + 4 * i] = new long[] {4, 1};
            all[4 + 4 * i] = new long[] {4, e[i][2]};
        }
        all[all.length - 1] = new long[] {4, next};
        return all;
    }

    private static void whitePage() {
        Tester t = fresh().stream("\f");
        t.conclude();
        // 825 times a shift by 0, two ends, seven bits: 107 bytes
        t.status(22, 258).status(23, 1);
        numbers(t, 0, new long[][] {{1, 73}, {1, 73}, {2, 42}, {4, 132}});
        for (int i = 0; i < 103; i++) {
            Tester.due("a byte of the strip", number(t, 8 + i, 1), 255);
        }
        numbers(t, 111, new long[][] {{1, 0x80}, {1, 0x08}, {1, 0x00}, {1, 0x80}, {1, 0}});
        numbers(t, 116, new long[][] {{4, 75}, {4, 1}, {4, 75}, {4, 1}});
        numbers(t, 132, directory(637, 825, 8, 107, 0));
    }

    private static void copiesAndLinks() {
        Tester t = new Tester(150, 16).stream("\33&l2x1A\f\33&l1x2A\f");
        t.conclude();
        int[] wide = {1087, 1087, 1275};
        int[] high = {1575, 1575, 1650};
        int link = 4;
        int place = 8;
        for (int p = 0; p < 3; p++) {
            int length = (high[p] + 24 + 7) / 8;
            int fine = place + length + (place + length) % 2;
            Tester.due("the place of the strip", t.sheetOf(p, 2), place);
            Tester.due("the length of the strip", t.sheetOf(p, 3), length);
            Tester.due("the place of the directory", number(t, link, 4), fine + 16);
            numbers(t, fine, new long[][] {{4, 150}, {4, 1}, {4, 150}, {4, 1}});
            int end = fine + 16 + 126;
            int next = p == 2 ? 0 : end + (high[p + 1] + 24 + 7) / 8 + (end + (high[p + 1] + 24 + 7) / 8) % 2 + 16;
            numbers(t, fine + 16, directory(wide[p], high[p], place, length, next));
            link = end - 4;
            place = end;
        }
        t.status(22, place);
    }

    /** Lines given as texts come back as coded, and read. */
    private static void coded(String bits, String... lines) {
        Pictures f = new Pictures(73);
        int width = lines[0].length();
        int[] dots = new int[(width + 7) / 8 * lines.length];
        for (int j = 0; j < lines.length; j++) {
            for (int x = 0; x < width; x++) {
                dots[j * ((width + 7) / 8) + x / 8] |= lines[j].charAt(x) == '#' ? 128 >> x % 8 : 0;
            }
        }
        f.plain(width, lines.length, dots);
        // the other way round the same bits must be read
        f.packed(width, lines.length, bits);
        Tester t = fresh();
        Tester.due("fault", t.file(f.file()), 0);
        t.conclude();
        StringBuilder got = new StringBuilder();
        String want = bits.replace(" ", "") + END + END;
        for (int i = 0; i < t.sheetOf(0, 3); i++) {
            got.append(Long.toBinaryString(256 + number(t, 8 + i, 1)).substring(1));
        }
        Tester.due("the strip", got.toString(), want + "0000000".substring(0, (8 - want.length() % 8) % 8));
        for (int j = 0; j < lines.length; j++) {
            t.dots(0, j, 0, lines[j]).dots(1, j, 0, lines[j]);
        }
    }

    private static void codedLines() {
        coded("1", ".");
        coded("010 1", "#");
        coded("1", "........");
        // across: white 0, black 8
        coded("001 00110101 000101", "########");
        coded("001 1011 11 1", "....##..");
        coded("001 1011 11 1 1 1 1", "....##..", "....##..");
        coded("001 1011 11 1 011 1 1", "....##..", ".....#..");
        coded("001 1011 11 1 0001 1", "....##..", "........");
        // each of the shifts
        String first = "001 1110 011 1";
        coded(first + "000011 1 1", "......####......", "........##......");
        coded(first + "000011 1 1 0000010 1 1", "......####......", "........##......", ".....#####......");
        coded("001 1100 0011 1 0000011 010 1", ".....#####......", "........#.......");
        coded("001 10011 010 1 000010 010 010 1", "........#.......", "......##.......#");
    }

    private static void longRuns() {
        // 2560 + 2560 + 64 + 1 of white, then 1792 + 63 of black
        StringBuilder line = new StringBuilder(".".repeat(5185)).append("#".repeat(1855)).append(".".repeat(100));
        coded("001 000000011111 000000011111 11011 000111 00000001000 000001100111 1", line.toString());
        coded("001 010011011 00110100 0000001100101 0000110111 1", ".".repeat(1791) + "#".repeat(1728) + ".....");
        coded("001 000000011111 00110101 000000011110 000001100111 1", ".".repeat(2560) + "#".repeat(2559) + "....");
        for (int n : new int[] {4, 5, 62, 63, 64, 65, 127, 128, 1727, 1728, 1791, 1792, 1793, 1855, 1856, 2495, 2496, 2559, 2560, 2561, 4351, 4352, 4990}) {
            coded("001" + PlainPrinter.run(n, 0) + PlainPrinter.run(n, 1) + "1", ".".repeat(n) + "#".repeat(n) + "....");
        }
    }

    private static int faultOf(Pictures f) {
        return fresh().file(f.file());
    }

    private static Pictures white() {
        Pictures f = new Pictures(73);
        f.packed(8, 1, "1");
        return f;
    }

    private static void headFaults() {
        Tester.due("fault", faultOf(white()), 0);
        byte[] all = white().file();
        for (int length = 1; length < 8; length++) {
            Tester.due("fault of a short file", fresh().file(java.util.Arrays.copyOf(all, length)), 1);
        }
        Tester.due("fault of eight bytes", fresh().file(java.util.Arrays.copyOf(all, 8)), 2);
        int[][] wrong = {{0, 77}, {1, 77}, {0, 0}, {2, 43}, {3, 1}, {2, 0}};
        for (int[] w : wrong) {
            Tester.due("fault", faultOf(white().set(w[0], w[1], 1)), 1);
        }
        Tester.due("fault", faultOf(new Pictures(77)), 2);
        Pictures f = new Pictures(77);
        f.packed(8, 1, "1");
        Tester.due("fault", faultOf(f), 0);
        Tester.due("fault of two orders", faultOf(f.set(1, 73, 1)), 1);
        Tester.due("fault of another order", fresh().file(new byte[] {74, 74, 42, 0, 8, 0, 0, 0}), 1);
    }

    private static void directoryFaults() {
        int size = white().size();
        for (long place : new long[] {0, 1, 2, 6, 7, 9, 11, size, size - 2, size + 2, 65536, 0x7FFFFFFEL, 0x80000000L, 0xFFFFFFFEL, 0xFFFFFFFFL}) {
            Tester.due("fault of the place " + place, faultOf(white().set(4, place, 4)), 2);
        }
        Pictures f = white();
        int second = f.packed(8, 1, "1");
        Tester.due("fault", faultOf(f), 0);
        for (long place : new long[] {1, 2, 6, 7, second + 1, f.size(), 0xFFFFFFFEL}) {
            Tester.due("fault of the second place " + place, faultOf(f.set(second - 6, place, 4)), 2);
        }
        Tester.due("fault of no entries", faultOf(white().set(10, 0, 2)), 2);
        Tester.due("fault of too many entries", faultOf(white().set(10, 6, 2)), 2);
        byte[] all = white().file();
        Tester.due("fault of a next place that is cut", fresh().file(java.util.Arrays.copyOf(all, all.length - 1)), 2);
        // a ring of directories; forty pages are good, more are not
        f = white();
        f.set(f.size() - 4, 10, 4);
        Tester t = fresh();
        Tester.due("fault of a ring", t.file(f.file()), 2);
        t.status(2, 0);
        f = new Pictures(73);
        for (int p = 0; p < 40; p++) {
            f.packed(1, 1, "1");
        }
        t = fresh();
        Tester.due("fault of forty pages", t.file(f.file()), 0);
        t.status(2, 40);
        f.packed(1, 1, "1");
        Tester.due("fault of forty-one pages", faultOf(f), 2);
    }

    private static long[] e(long... numbers) {
        return numbers;
    }

    /** A page of 8 by 2 dots whose entry of the tag is as told, or missing. */
    private static Pictures with(long[] entry, int missing) {
        long[][] usual = {e(256, 3, 1, 8), e(257, 3, 1, 2), e(259, 3, 1, 4), e(262, 3, 1, 0), e(266, 3, 1, 1), e(273, 4, 1, 8), e(278, 4, 1, 2),
            e(279, 4, 1, 1), e(282, 5, 1, 10), e(283, 5, 1, 10), e(296, 3, 1, 2)};
        java.util.TreeMap<Long, long[]> all = new java.util.TreeMap<>();
        for (long[] u : usual) {
            all.put(u[0], u);
        }
        if (entry != null) {
            all.put(entry[0], entry);
        }
        all.remove((long) missing);
        Pictures f = new Pictures(73);
        f.put(0xC0, 0);
        f.numbers(4, 300, 1, 0, 7);
        f.page(all.values().toArray(new long[0][]));
        return f;
    }

    private static void entryFaults() {
        Tester.due("fault", faultOf(with(null, 0)), 0);
        int[] tags = {256, 257, 259, 262, 266, 273, 278, 279, 282, 283, 296};
        for (int tag : tags) {
            for (int type = 0; type < 7; type++) {
                boolean good = tag == 282 || tag == 283 ? type == 5 : type == 3 || type == 4 && tag != 259 && tag != 262 && tag != 266 && tag != 296;
                long value = tag == 256 ? 8 : tag == 257 || tag == 278 || tag == 296 ? 2 : tag == 259 ? 4 : tag == 262 ? 0 : tag == 273 ? 8
                        : tag == 282 || tag == 283 ? 10 : 1;
                Tester.due("fault of tag " + tag + ", type " + type, faultOf(with(e(tag, type, 1, value), 0)), good ? 0 : 4);
            }
            long type = tag == 282 || tag == 283 ? 5 : 3;
            for (long count : new long[] {0, 4097, 65536, 0xFFFFFFFFL}) {
                Tester.due("fault of tag " + tag + ", count " + count, faultOf(with(e(tag, type, count, 10), 0)), 4);
            }
            boolean many = tag == 273 || tag == 279;
            Tester.due("fault of tag " + tag + ", count 2", faultOf(with(e(tag, type, 2, 10, 10), 0)), many ? 8 : 4);
            if (many) {
                int size = with(null, 0).size();
                Tester.due("fault of 4096", faultOf(with(e(tag, 3, 4096, 8), 0)), 5);
                Tester.due("fault of a place", faultOf(with(e(tag, 4, 2, size - 8), 0)), 8);
                Tester.due("fault of a place", faultOf(with(e(tag, 4, 2, size - 7), 0)), 5);
                Tester.due("fault of a place", faultOf(with(e(tag, 3, 3, size - 6), 0)), 8);
                Tester.due("fault of a place", faultOf(with(e(tag, 3, 3, size - 5), 0)), 5);
                Tester.due("fault of a place", faultOf(with(e(tag, 3, 3, 0xFFFFFFFFL), 0)), 5);
            }
        }
        Tester.due("fault", faultOf(with(e(282, 5, 1, with(null, 0).size() - 7), 0)), 5);
        Tester.due("fault", faultOf(with(e(283, 5, 1, 0xFFFFFFF8L), 0)), 5);
        // tags without a meaning are not looked at, but must be in order
        Tester.due("fault", faultOf(with(e(258, 99, 0, 0), 0)), 0);
        Tester.due("fault", faultOf(with(e(0, 4, 99, 0xFFFFFFFFL), -1)), 0);
        Tester.due("fault", faultOf(with(e(65535, 0, 0xFFFFFFFFL, 0xFFFFFFFFL), 0)), 0);
        Pictures f = new Pictures(73);
        f.put(0x80, 0);
        f.page(e(256, 3, 1, 8), e(257, 3, 1, 1), e(257, 3, 1, 1));
        Tester.due("fault of a tag twice", faultOf(f), 3);
        f = new Pictures(73);
        f.page(e(257, 3, 1, 8), e(256, 9, 1, 1));
        Tester.due("fault of the order", faultOf(f), 3);
        f = new Pictures(73);
        f.page(e(257, 9, 1, 8), e(256, 3, 1, 1));
        Tester.due("the first entry's fault", faultOf(f), 4);
        f = new Pictures(73);
        f.page(e(999, 9, 1, 8), e(998, 3, 1, 1));
        Tester.due("fault of the order", faultOf(f), 3);
    }

    private static void pageFaults() {
        for (int tag : new int[] {256, 257, 273, 279}) {
            Tester.due("fault without " + tag, faultOf(with(null, tag)), 6);
        }
        for (int tag : new int[] {262, 266, 278, 282, 283, 296}) {
            Tester.due("fault without " + tag, faultOf(with(null, tag)), 0);
        }
        Tester.due("without a code the bytes are plain", faultOf(with(null, 259)), 18);
        long[][] wrong = {e(256, 3, 1, 0), e(256, 3, 1, 20001), e(256, 4, 1, 0xFFFFFFFFL), e(257, 3, 1, 0), e(257, 3, 1, 20001), e(259, 3, 1, 0),
            e(259, 3, 1, 2), e(259, 3, 1, 3), e(259, 3, 1, 5), e(262, 3, 1, 2), e(266, 3, 1, 0), e(266, 3, 1, 3), e(278, 3, 1, 0),
            e(296, 3, 1, 0), e(296, 3, 1, 4), e(282, 5, 1, 14), e(283, 5, 1, 14)};
        for (long[] w : wrong) {
            Tester.due("fault of tag " + w[0] + ", " + w[3], faultOf(with(w, 0)), 7);
        }
        long[][] good = {e(262, 3, 1, 1), e(278, 4, 1, 0xFFFFFFFFL), e(278, 3, 1, 3), e(296, 3, 1, 1), e(296, 3, 1, 3), e(282, 5, 1, 18), e(256, 3, 1, 10000)};
        for (long[] g : good) {
            Tester.due("fault of tag " + g[0] + ", " + g[3], faultOf(with(g, 0)), 0);
        }
        Tester.due("too wide", faultOf(with(e(256, 3, 1, 10001), 0)), 19);
        Tester.due("too wide", faultOf(with(e(256, 3, 1, 20000), 0)), 19);
        Tester.due("too high for its bits", faultOf(with(e(257, 3, 1, 20000), 278)), 11);
        Tester.due("more strips than places", faultOf(with(e(278, 3, 1, 1), 0)), 8);
        Tester.due("more places than strips", faultOf(with(e(273, 3, 2, 8, 8), 0)), 8);
        Tester.due("more lengths than strips", faultOf(with(e(279, 3, 2, 1, 1), 0)), 8);
        // 4096 strips twice are good, one more is not
        for (int more = 0; more < 2; more++) {
            Pictures f = new Pictures(77);
            long[] both = new long[4096];
            java.util.Arrays.fill(both, 8);
            int place = f.numbers(2, both);
            for (int p = 0; p < 2 + more; p++) {
                int n = p < 2 ? 4096 : 1;
                f.page(e(256, 3, 1, 8), e(257, 3, 1, n), e(273, n == 1 ? 4 : 3, n, place), e(278, 3, 1, 1), e(279, n == 1 ? 4 : 3, n, n == 1 ? 8 : place));
            }
            Tester t = fresh();
            Tester.due("fault of many strips", t.file(f.file()), more == 0 ? 0 : 8);
            t.status(2, more == 0 ? 2 : 0);
        }
    }

    private static void stripFaults() {
        int size = with(null, 0).size();
        for (long place : new long[] {0, 7, size, size + 1, 0xFFFFFFFFL}) {
            Tester.due("fault of a strip at " + place, faultOf(with(e(273, 4, 1, place), 0)), 9);
        }
        Tester.due("fault of a strip at the end", faultOf(with(e(273, 4, 1, size - 1), 0)), 11);
        Tester.due("fault of a long strip", faultOf(with(e(279, 4, 1, size - 8), 0)), 0);
        Tester.due("fault of a longer strip", faultOf(with(e(279, 4, 1, size - 7), 0)), 9);
        Tester.due("fault of a strip that wraps", faultOf(with(e(279, 4, 1, 0xFFFFFFFFL), 0)), 9);
        Tester.due("fault of an empty strip", faultOf(with(e(279, 4, 1, 0), 0)), 11);
        Pictures f = new Pictures(73);
        f.page(e(256, 3, 1, 8), e(257, 3, 1, 1), e(259, 3, 1, 4), e(273, 4, 1, 74), e(279, 3, 1, 0));
        Tester.due("the file's length", f.size(), 74);
        Tester.due("fault of an empty strip at the end", faultOf(f), 11);
        f.set(8 + 2 + 36 + 8, 75, 4);
        Tester.due("fault of an empty strip behind the end", faultOf(f), 9);
    }

    /** The fault of coded lines. */
    private static void lines(int want, int width, int height, String bits) {
        for (int turned = 0; turned < 2; turned++) {
            Pictures f = new Pictures(turned == 0 ? 73 : 77);
            int place = f.bits(bits);
            byte[] raw = f.file();
            int length = f.size() - place;
            for (int i = 0; i < length && turned == 1; i++) {
                f.set(place + i, Integer.reverse(raw[place + i]) >>> 24, 1);
            }
            f.page(e(256, 3, 1, width), e(257, 3, 1, height), e(259, 3, 1, 4), e(266, 3, 1, 1 + turned), e(273, 4, 1, place), e(279, 3, 1, length));
            Tester t = fresh().stream("\f");
            Tester.due("fault of " + bits, t.file(f.file()), want);
            t.status(2, want == 0 ? 2 : 1);
            Tester.due("conclude", t.conclude(), want);
        }
    }

    private static void lineFaults() {
        lines(0, 8, 8, "11111111");
        lines(11, 8, 9, "11111111");
        // in a word: 0 and 00 and 000 can begin one, and so can 0000, 00000
        lines(11, 8, 8, "1111111 0");
        lines(11, 8, 7, "111111 00");
        lines(11, 8, 4, "111 00000");
        // at a line's begin six zeros and more can begin an end, within a line they can't
        lines(11, 8, 3, "11 000000");
        lines(11, 8, 1, "00000000");
        lines(12, 8, 1, "00000000 00000000");
        lines(12, 8, 1, "00000000 0000 1111");
        lines(11, 9, 1, "001 1000 1");
        lines(12, 100, 1, "001 1000 10 000000 1");
        lines(12, 100, 1, "001 1000 10 0000000 ");
        lines(11, 100, 1, "001 1000 10 001 1101");
        lines(12, 100, 1, "001 00000000 00000000");
        lines(12, 100, 1, "001 000000001");
        lines(12, 100, 1, "001 1000 00000000 00000000");
        lines(11, 100, 1, "001 1000 0");
        lines(11, 100, 1, "001 11011");
        // a pass to the end
        lines(13, 8, 1, "0001 1111");
        lines(13, 8, 2, "001 1011 011 0001 1");
        lines(0, 8, 2, "001 1011 11 1 0001 1");
        // a shift that does not go right, or goes beyond
        lines(14, 8, 1, "011 11111");
        lines(14, 8, 1, "000011 11");
        lines(14, 8, 1, "0000011 1");
        lines(14, 1, 1, "000010 11");
        lines(0, 1, 1, "010 1");
        lines(0, 2, 1, "000010 1");
        lines(14, 2, 1, "0000010");
        lines(0, 3, 1, "0000010 1");
        lines(14, 10, 2, "001 1110 11 1 001 1011 010 010");
        lines(14, 10, 2, "001 1110 11 1 001 1011 010 000010");
        lines(0, 10, 2, "001 1110 11 1 001 1000 010 010 1 1");
        lines(14, 8, 2, "001 00110101 11 1 010");
        // runs that go beyond
        lines(15, 8, 1, "001 10100");
        lines(0, 8, 1, "001 10011 0000110111");
        lines(15, 8, 1, "001 10011 010");
        lines(15, 63, 1, "001 11011");
        lines(11, 64, 1, "001 11011");
        lines(15, 64, 1, "001 11011 000111");
        lines(15, 100, 1, "001 11011 11011");
        lines(0, 128, 1, "001 11011 11011 00110101 0000110111");
        lines(0, 192, 1, "001 11011 10010 00110101 0000110111");
        lines(15, 2559, 1, "001 000000011111 00110101");
        // two runs without dots, each alone is good
        lines(16, 8, 1, "001 00110101 0000110111 1");
        lines(0, 8, 1, "001 00110101 010 1");
        lines(0, 8, 1, "001 000111 0000110111 1");
        lines(16, 8, 1, "001 000111 0000110111 001 00110101 0000110111 1");
        // the end of the picture
        lines(17, 8, 1, END + END);
        lines(17, 8, 2, "1" + END + END);
        lines(11, 8, 2, "1" + END);
        lines(12, 8, 2, "1" + END + "1");
        lines(11, 8, 1, END + "0000");
        lines(12, 8, 1, END + "001 1000 10 1");
        lines(0, 8, 1, "1" + END + END);
        lines(12, 8, 1, "001 1000 10" + END);
        // the first fault in the bits counts
        lines(14, 8, 2, "011 00000000 00000000");
        lines(15, 8, 2, "001 10100 00000000 00000000");
    }

    private static void read(String bits, String... want) {
        Pictures f = new Pictures(73);
        f.packed(want[0].length(), want.length, bits);
        Tester t = fresh();
        Tester.due("fault of " + bits, t.file(f.file()), 0);
        t.conclude();
        for (int j = 0; j < want.length; j++) {
            t.dots(0, j, 0, want[j]);
        }
    }

    private static void goodLines() {
        read("001 1000 10 1", "...###..");
        read("001 1000 0000110111 1", "........");
        read("001 00110101 11 001 0111 10 1", "##..###.");
        // a run of no dots makes no change that the next line could see
        read("001 1000 0000110111 001 1000 11 1 1 1 1", "......##.", "......##.");
        read("010 1 1 1", "#", "#");
        read("001 00110101 010 1 011 1", "#......", ".######");
        read("001 0111 10 1 000011 011 1", "..###...", "....##..");
        read("001 0111 10 1 0001 1", "..###...", "........");
        read("001 0111 11 001 0111 11 1 0001 1 1 1", "..##..##.", "......##.");
        // black goes on beyond changes of the line above
        read("001 0111 11 001 0111 11 1 1 0001 1 1", "..##..##.", "..######.");
        read("001 00110101 10 001 0111 10 001 00110101 11 1", "###..#####");
    }

    private static void plainPictures() {
        for (int order : new int[] {73, 77}) {
            for (int ink = 0; ink < 2; ink++) {
                for (int fill = 1; fill < 3; fill++) {
                    Pictures f = new Pictures(order);
                    int place = f.put(0xA0, 0xFF, 0x0F, 0x00);
                    f.page(e(256, 3, 1, 11), e(257, 3, 1, 2), e(259, 3, 1, 1), e(262, 3, 1, ink), e(266, 3, 1, fill), e(273, 4, 1, place), e(279, 4, 1, 4));
                    Tester t = fresh();
                    Tester.due("fault", t.file(f.file()), 0);
                    t.conclude();
                    String[] want = fill == 1 ? new String[] {"#.#.....###", "....####..."} : new String[] {".....#.####", "####......."};
                    for (int j = 0; j < 2; j++) {
                        t.dots(0, j, 0, (ink == 1 ? want[j].replace('#', '+').replace('.', '#').replace('+', '.') : want[j]) + ".....");
                    }
                }
            }
        }
        Pictures f = new Pictures(73);
        f.plain(9, 2, 0, 0, 0, 0);
        Tester.due("fault", faultOf(f), 0);
        f = new Pictures(73);
        f.plain(9, 2, 0, 0, 0);
        Tester.due("fault of too few bytes", faultOf(f), 18);
        f = new Pictures(73);
        f.plain(9, 2, 0, 0, 0, 0, 0, 0);
        Tester.due("fault of too many bytes", faultOf(f), 0);
        // an inverted coded page
        f = new Pictures(73);
        int place = f.bits("001 0111 10 1 1 1 1");
        f.page(e(256, 3, 1, 8), e(257, 3, 1, 2), e(259, 3, 1, 4), e(262, 3, 1, 1), e(273, 4, 1, place), e(279, 4, 1, 3));
        Tester t = fresh();
        Tester.due("fault", t.file(f.file()), 0);
        t.conclude();
        t.dots(0, 0, 0, "##...###........").dots(0, 1, 0, "##...###........");
    }

    private static void strips() {
        // three strips of two lines and one of one, each from a white line above on
        Pictures f = new Pictures(77);
        int a = f.bits("001 0111 10 1 1 1 1" + END + END);
        int b = f.bits("1 001 0111 10 1");
        int places = f.numbers(4, a, b, a, b);
        int lengths = f.numbers(2, 5, 2, 3, 1);
        f.page(e(256, 3, 1, 8), e(257, 3, 1, 7), e(259, 3, 1, 4), e(273, 4, 4, places), e(278, 3, 1, 2), e(279, 3, 4, lengths));
        Tester t = fresh();
        Tester.due("fault", t.file(f.file()), 0);
        t.conclude();
        String[] want = {"..###...", "..###...", "........", "..###...", "..###...", "..###...", "........"};
        for (int j = 0; j < 7; j++) {
            t.dots(0, j, 0, want[j]);
        }
        Tester.due("down", t.sheetOf(0, 1), 7);
        // a plain strip that is too short, the last one that is just long enough
        for (int last = 0; last < 2; last++) {
            f = new Pictures(73);
            a = f.put(1, 2, 3, 4);
            f.page(e(256, 3, 1, 8), e(257, 3, 1, 3), e(273, 3, 2, a, a), e(278, 3, 1, 2), e(279, 3, 2, 2, last));
            Tester.due("fault", faultOf(f), last == 0 ? 18 : 0);
        }
    }

    private static void fineness() {
        long[][] want = {{300, 1, 300}, {0, 1, 1}, {1, 2, 1}, {999, 2, 499}, {10000, 1, 10000}, {10001, 1, 10000}, {0xFFFFFFFFL, 1, 10000},
            {0xFFFFFFFFL, 0xFFFFFFFFL, 1}, {0xFFFFFFFFL, 0x80000000L, 1}, {0xFFFFFFFEL, 0x7FFFFFFFL, 2}};
        for (long[] w : want) {
            Pictures f = new Pictures(73);
            f.put(0x80, 0);
            int place = f.numbers(4, w[0], w[1], 600, 5);
            f.page(e(256, 3, 1, 8), e(257, 3, 1, 1), e(259, 3, 1, 4), e(273, 4, 1, 8), e(279, 4, 1, 1), e(282, 5, 1, place), e(283, 5, 1, place + 8));
            Tester t = fresh();
            Tester.due("fault", t.file(f.file()), 0);
            t.conclude();
            int fine = (int) (8 + t.sheetOf(0, 3) + t.sheetOf(0, 3) % 2);
            numbers(t, fine, new long[][] {{4, w[2]}, {4, 1}, {4, 120}, {4, 1}});
        }
        Tester t = fresh();
        Tester.due("fault", t.file(white().file()), 0);
        t.conclude();
        // 25 bits in 4 bytes
        numbers(t, 12, new long[][] {{4, 300}, {4, 1}, {4, 300}, {4, 1}});
        numbers(t, 28, directory(8, 1, 8, 4, 0));
    }

    private static void sizeOfPictures() {
        for (int width : new int[] {1, 63, 64, 65, 10000}) {
            Pictures f = new Pictures(73);
            f.packed(width, 20000, "1".repeat(20000));
            Tester t = fresh();
            Tester.due("fault", t.file(f.file()), 0);
            t.conclude();
            Tester.due("across", t.sheetOf(0, 0), width);
            Tester.due("down", t.sheetOf(0, 1), 20000);
            Tester.due("length", t.sheetOf(0, 3), 2503);
            Tester.due("printed", t.x.printed(0, 19999, 0), 0);
        }
        // every other dot black, all across
        Pictures f = new Pictures(73);
        int[] dots = new int[1250];
        java.util.Arrays.fill(dots, 0x55);
        f.plain(10000, 1, dots);
        Tester t = fresh();
        Tester.due("fault", t.file(f.file()), 0);
        t.conclude();
        for (int k = 0; k < 156; k++) {
            Tester.due("printed(0, 0, " + k + ")", t.x.printed(0, 0, k), 0x5555555555555555L);
        }
        Tester.due("printed(0, 0, 156)", t.x.printed(0, 0, 156), 0x5555000000000000L);
        Tester.due("printed(0, 0, 157)", t.x.printed(0, 0, 157), 0);
    }

    /** A file with pages of white lines: of these heights, all from the same few bytes. */
    private static byte[] heights(int... heights) {
        Pictures f = new Pictures(73);
        int[] white = new int[200];
        java.util.Arrays.fill(white, 255);
        int place = f.put(white);
        for (int h : heights) {
            int n = (h + 1599) / 1600;
            long[] same = new long[n];
            java.util.Arrays.fill(same, place);
            int places = n == 1 ? place : f.numbers(4, same);
            java.util.Arrays.fill(same, 200);
            int lengths = n == 1 ? 200 : f.numbers(4, same);
            f.page(e(256, 3, 1, 9), e(257, 3, 1, h), e(259, 3, 1, 4), e(273, 4, n, places), e(278, 3, 1, 1600), e(279, 4, n, lengths));
        }
        return f.file();
    }

    private static void fullFile() {
        // 22 pages of 2503 bytes, one 0 and 142 bytes behind: 8 + 22 * 2646 = 58220; then 1780 bytes are left
        int[] many = new int[11];
        java.util.Arrays.fill(many, 20000);
        Tester t = fresh();
        Tester.due("fault", t.file(heights(many)), 0);
        Tester.due("fault", t.file(heights(many)), 0);
        t.status(2, 22);
        Tester.due("one byte too many", t.file(heights(1780 * 8 - 24 + 1)), 20);
        t.status(2, 22);
        Tester.due("conclude", t.conclude(), 20);
        t.status(22, 58220);
        t = fresh();
        Tester.due("fault", t.file(heights(many)), 0);
        Tester.due("fault", t.file(heights(many)), 0);
        Tester.due("just as many", t.file(heights(1780 * 8 - 24)), 0);
        t.status(2, 23);
        Tester.due("not one page more", t.file(heights(1)), 20);
        Tester.due("conclude", t.conclude(), 20);
        t.status(22, 60142).status(23, 23);
        // a fault of the lines is told ahead of that of the file
        t = fresh();
        t.file(heights(many));
        t.file(heights(many));
        t.file(heights(1780 * 8 - 24));
        Pictures f = new Pictures(73);
        f.packed(8, 2, "1 0001 111");
        Tester.due("fault", t.file(f.file()), 13);
        t.conclude();
        // copies: those that fit are there; a strip of a sheet has 107 bytes
        t = fresh();
        t.file(heights(many));
        t.file(heights(many));
        t.stream("\33&l99X\f").status(3, 20).status(2, 22 + 1780 / 250 + (1780 % 250 >= 107 ? 1 : 0));
        t.conclude();
        t.stream("\f".repeat(39) + "A\33&l2X");
        Tester.due("the last page fails", t.conclude(), 20);
        t.status(23, 40);
        t.stream("\f".repeat(39) + "A");
        Tester.due("the last page", t.conclude(), 0);
        t.status(23, 40);
        Pictures pages = new Pictures(73);
        pages.packed(8, 1, "1");
        pages.packed(8, 1, "1");
        t.stream("\f".repeat(39));
        Tester.due("a page too many", t.file(pages.file()), 20);
        t.status(2, 40).conclude();
        t.status(23, 40);
        pages.packed(8, 1, "0001 1111");
        t.stream("\f".repeat(38));
        Tester.due("pages before the fault stay", t.file(pages.file()), 13);
        t.status(2, 40);
    }

    private static void partsOfAJob() {
        // a picture comes ahead of the sheet that is begun, and amid a sequence
        Tester t = fresh().stream("A\33&a5");
        Tester.due("fault", t.file(white().file()), 0);
        t.status(2, 1).stream("C").at(3600, 4500);
        t.conclude();
        Tester.due("the picture", t.sheetOf(0, 0), 8);
        Tester.due("the sheet", t.sheetOf(1, 0), 637);
        // a sheet of a job that has failed is thrown away
        t.stream("A");
        Tester.due("fault", t.file(new byte[9]), 1);
        t.status(2, 0).status(3, 1);
        Tester.due("conclude", t.conclude(), 1);
        t.status(23, 0).status(4, 0).stream("\33E").status(2, 0);
    }
}
