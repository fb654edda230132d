import java.util.Arrays;
import java.util.TreeMap;

/** The bounds of coded lines and of files of pictures, fault by fault. */
public final class PictureBoundsTest {
    private static final String END = PlainPrinter.END;
    private static final long MOST = 0xFFFFFFFFL;

    public static void main(String[] args) {
        shiftsUpTo3();
        runsAtTheirBlocks();
        lineFault1();
        lineFault2();
        lineFault3();
        lineFault4();
        lineFault5();
        lineFault6();
        theEndOfThePicture();
        theFirstFaultInTheBits();
        behindTheLastLine();
        fault1();
        fault2();
        fault2Pages();
        fault3();
        fault4();
        fault5();
        fault6();
        fault7();
        fault8();
        fault9();
        theFirstFault();
        pagesOneByOne();
        fault18();
        fault19();
        fault20();
        fault21();
        fineness();
        runsOf0Dots();
        fillAndInk();
        lastStripMayHaveFewerLines();
        pagesBeforeStay();
        Tester.end();
    }

    private static Tester fresh() {
        return new Tester(75, 16);
    }

    private static long[] e(long... numbers) {
        return numbers;
    }

    private static int faultOf(byte[] file) {
        Tester t = fresh().stream("\f");
        int fault = t.file(file);
        t.status(1, 0);
        if (fault > 0 && fault < 10) {
            t.status(2, 1);
        }
        Tester.due("conclude", t.conclude(), fault);
        return fault;
    }

    private static void fault(int want, byte[] file) {
        Tester.due("the fault", faultOf(file), want);
    }

    private static void fault(int want, Pictures f) {
        fault(want, f.file());
    }

    /** A page of coded lines has the fault, whatever the order and the FILL of its bytes. */
    private static void lines(int want, int width, int height, String bits) {
        for (int turned = 0; turned < 2; turned++) {
            Pictures f = new Pictures(turned == 0 ? 73 : 77);
            int place = f.bits(bits);
            byte[] raw = f.file();
            int length = f.size() - place;
            for (int i = 0; i < length && turned == 1; i++) {
                f.set(place + i, Integer.reverse(raw[place + i]) >>> 24, 1);
            }
            f.page(e(256, 3, 1, width), e(257, 3, 1, height), e(259, 3, 1, 4), e(266, 3, 1, 1 + turned), e(273, 4, 1, place), e(279, 3, 1, length));
            Tester t = fresh();
            Tester.due("fault of " + bits, t.file(f.file()), want);
            t.status(2, want == 0 ? 1 : 0);
        }
    }

    private static String bits(Tester t, int p) {
        StringBuilder all = new StringBuilder();
        for (long i = t.sheetOf(p, 2); i > 0 && i < t.sheetOf(p, 2) + t.sheetOf(p, 3); i++) {
            all.append(Long.toBinaryString(256 + (t.x.bytesAt((int) i / 8) >>> 56 - 8 * (i % 8) & 255)).substring(1));
        }
        return all.toString();
    }

    /** The lines are coded as these bits, and the bits are read as these lines. */
    private static void coded(String bits, String... lines) {
        int width = lines[0].length();
        int bytes = (width + 7) / 8;
        int[] dots = new int[bytes * lines.length];
        for (int j = 0; j < lines.length; j++) {
            for (int x = 0; x < width; x++) {
                dots[j * bytes + x / 8] |= lines[j].charAt(x) == '#' ? 128 >> x % 8 : 0;
            }
        }
        Pictures f = new Pictures(77);
        f.plain(width, lines.length, dots);
        f.packed(width, lines.length, bits);
        Tester t = fresh();
        Tester.due("fault", t.file(f.file()), 0);
        t.conclude();
        String want = bits.replace(" ", "") + END + END;
        want += "0".repeat((8 - want.length() % 8) % 8);
        for (int p = 0; p < 2; p++) {
            Tester.due("the strip", bits(t, p), want);
            for (int j = 0; j < lines.length; j++) {
                t.dots(p, j, 0, lines[j]);
            }
        }
    }

    /** "if a1 - b1 is -3 .. 3: SHIFT by that .. Else ACROSS" */
    private static void shiftsUpTo3() {
        String first = "001" + PlainPrinter.run(10, 0) + PlainPrinter.run(5, 1) + "1";
        String[] words = {"0000010", "000010", "010", "1", "011", "000011", "0000011"};
        for (int by = -5; by <= 5; by++) {
            String above = ".".repeat(10) + "#####" + ".".repeat(15);
            String line = ".".repeat(10 + by) + "#".repeat(15 - by - 10 + 5) + ".".repeat(10);
            if (by < -3) {
                coded(first + "001" + PlainPrinter.run(10 + by, 0) + PlainPrinter.run(10 - by, 1) + "1", above, line);
            } else if (by == 4) {
                coded(first + "001" + PlainPrinter.run(14, 0) + PlainPrinter.run(6, 1) + "1", above, line);
            } else if (by == 5) {
                coded(first + "1 1 1 0001 1", above, above, ".".repeat(30));
            } else {
                coded(first + words[by + 3] + "001" + PlainPrinter.run(10 - by, 1) + PlainPrinter.run(10, 0), above, line);
            }
        }
    }

    /** "as long as n is 2560 or more the BLOCK 2560 ..; then, if it is 64 or more, the BLOCK of n less n % 64; then the REST" */
    private static void runsAtTheirBlocks() {
        // each of the words: the RESTS, and the BLOCKS with a REST
        for (int n = 1; n < 64; n++) {
            coded("001" + PlainPrinter.run(n, 0) + PlainPrinter.run(n, 1) + "1", ".".repeat(n) + "#".repeat(n) + "....");
        }
        for (int n = 64; n <= 2624; n += 64) {
            coded("001" + PlainPrinter.run(n, 0) + PlainPrinter.run(n + 9, 1) + "1", ".".repeat(n) + "#".repeat(n + 9) + "....");
        }
        for (int n : new int[] {4, 63, 64, 65, 127, 128, 1727, 1728, 1729, 1791, 1792, 1793, 2495, 2496, 2559, 2560, 2561, 2623, 2624, 4351, 4352, 4998}) {
            coded("001" + PlainPrinter.run(n, 0) + PlainPrinter.run(n, 1) + "1", ".".repeat(n) + "#".repeat(n) + "....");
            coded("001" + PlainPrinter.run(0, 0) + PlainPrinter.run(n, 1) + "1", "#".repeat(n) + "....");
        }
        coded("001" + PlainPrinter.run(0, 0) + PlainPrinter.run(10000, 1), "#".repeat(10000));
        coded("001" + PlainPrinter.run(0, 0) + PlainPrinter.run(7680, 1) + "1", "#".repeat(7680) + "....");
    }

    /** "1 the bits end (in a word, or before the line has ended)" */
    private static void lineFault1() {
        lines(0, 8, 8, "11111111");
        lines(11, 8, 9, "11111111");
        for (String word : new String[] {"0", "00", "000", "0000", "00000", "000000", "0000000"}) {
            lines(11, 8, 9 - word.length(), "1".repeat(8 - word.length()) + word);
        }
        lines(11, 8, 1, "00000000");
        // in a run of white, of black, and between the two
        lines(11, 100, 1, "001 00000");
        lines(11, 100, 1, "001 11011");
        lines(11, 100, 1, "001 1000 0");
        lines(11, 200, 1, "001 1000 0 0000 0111");
        lines(11, 100, 1, "001 000111 10 00101");
        // the bits of a strip end where its LENGTH does, not where the file does
        Pictures f = new Pictures(73);
        f.put(255, 255, 255, 255);
        f.page(e(256, 3, 1, 8), e(257, 3, 1, 9), e(259, 3, 1, 4), e(273, 4, 1, 8), e(279, 3, 1, 1));
        fault(11, f);
        f = new Pictures(73);
        f.put(255, 255, 255, 255);
        f.page(e(256, 3, 1, 8), e(257, 3, 1, 9), e(259, 3, 1, 4), e(273, 4, 1, 8), e(279, 3, 1, 2));
        fault(0, f);
    }

    /** "2 what stands there is none of the words that can stand there" */
    private static void lineFault2() {
        // at a line's begin: 0000000 goes on with END alone
        lines(12, 8, 1, "00000001 1111");
        lines(12, 8, 1, "000000001 111");
        lines(12, 8, 1, "00000000001 1");
        lines(12, 8, 1, "000000000000 1111");
        lines(12, 8, 1, "00000000 00000000");
        // within a line END can not stand: 000000 goes on with a shift alone
        lines(12, 8, 1, "001 1000 11" + END);
        lines(12, 8, 1, "001 1000 11 0000000 1111");
        lines(12, 8, 1, "001 1000 11 0000 0001");
        // in runs: there is no white word with eight zeros ahead, no black one with nine, and no END
        lines(12, 100, 1, "001 00000000 1111");
        lines(12, 100, 1, "001 0111 00000000 1111");
        lines(12, 100, 1, "001" + END);
        lines(12, 100, 1, "001 0111" + END);
        lines(12, 100, 1, "001 11011" + END);
        // behind seven zeros all is a BLOCK, behind eight nothing is
        for (int i = 0; i < 16; i++) {
            String four = Integer.toBinaryString(16 + i).substring(1);
            lines(15, 100, 1, "001 00000001" + four + "1111");
            lines(15, 100, 1, "001 0111 00000001" + four + "1111");
            lines(12, 100, 1, "001 00000000" + four + "1111");
            lines(12, 3000, 1, "001 0111 000000011111 00000000" + four);
        }
    }

    /** "3 a PASS and b2 is the WIDTH" */
    private static void lineFault3() {
        lines(13, 8, 1, "0001 1111");
        lines(13, 8, 2, "001 1011 011 0001 1111");
        lines(0, 8, 2, "001 1011 10 1 0001 1");
        lines(0, 8, 2, "001 1011 11 1 0001 1");
        lines(13, 8, 2, "001 1011 11 1 0001 0001 1111");
        lines(13, 8, 2, "001 1011 11 1 1 0001 1111");
    }

    /** "4 a SHIFT to a place that is not right of a, or beyond the WIDTH" */
    private static void lineFault4() {
        lines(0, 8, 1, "1");
        lines(14, 8, 1, "011 1111");
        lines(14, 8, 1, "000011 1");
        lines(14, 8, 1, "0000011 1");
        // to the left: the WIDTH less 1, 2, 3, and a is -1
        String[] left = {"010", "000010", "0000010"};
        for (int by = 1; by <= 3; by++) {
            for (int width = 1; width <= 4; width++) {
                lines(width >= by ? 0 : 14, width, 1, left[by - 1] + "1");
            }
        }
        // not right of a: b1 is 6 for a white line up to 4, which is two left of it
        String first = "001 1110 10 1";
        lines(0, 20, 2, first + "001 0111 11 010 1 1");
        lines(14, 20, 2, first + "001 0111 10 010 010 1");
        lines(14, 20, 2, first + "001 0111 10 010 000010 1");
        lines(0, 20, 2, first + "001 0111 0000110111 0000010 000010 1");
        lines(14, 20, 2, first + "001 0111 11 000010 000010 1111");
        lines(14, 20, 2, first + "001 0111 0011 010 0000010");
        // to the place of a itself
        lines(14, 20, 2, "001 1000 010 1 001 000111 010 010 010 1");
        lines(14, 8, 2, "001 00110101 11 1 010");
        lines(14, 8, 2, "001 00110101 11 1 1 000010 1");
        lines(0, 8, 2, "001 00110101 11 1 1 010 1");
    }

    /** "5 runs that go beyond the WIDTH (as soon as a BLOCK or REST does so)" */
    private static void lineFault5() {
        for (int width : new int[] {1, 8, 63, 64, 65, 128, 2559, 2560, 2561, 5120, 9999, 10000}) {
            lines(0, width, 1, "001" + PlainPrinter.run(width, 0) + PlainPrinter.run(0, 1));
            lines(15, width, 1, "001" + PlainPrinter.run(width + 1, 0) + PlainPrinter.run(0, 1));
            lines(0, width, 1, "001" + PlainPrinter.run(0, 0) + PlainPrinter.run(width, 1));
            lines(15, width, 1, "001" + PlainPrinter.run(0, 0) + PlainPrinter.run(width + 1, 1));
            lines(0, width, 1, "001" + PlainPrinter.run(width - 1, 0) + PlainPrinter.run(1, 1));
            lines(15, width, 1, "001" + PlainPrinter.run(width - 1, 0) + PlainPrinter.run(2, 1));
            lines(15, width, 1, "001" + PlainPrinter.run(width, 0) + PlainPrinter.run(1, 1));
        }
        // as soon as a block does so: what stands behind it is not looked at
        lines(15, 63, 1, "001 11011 00000000 00000000");
        lines(12, 64, 1, "001 11011 00000000 00000000");
        lines(15, 2559, 1, "001 000000011111 00000000 00000000");
        lines(12, 2560, 1, "001 000000011111 00000000 00000000");
        lines(15, 8, 1, "001 1000 0000001111 00000000 00000000");
        // "A RUN is any BLOCKS, and a REST": small ones again and again, also ahead of greater ones
        lines(0, 192, 1, "001 11011 11011 11011 00110101 0000110111");
        lines(15, 191, 1, "001 11011 11011 11011");
        lines(0, 2624, 1, "001 11011 000000011111 00110101 0000110111");
    }

    /** "6 two runs of 0 dots" */
    private static void lineFault6() {
        String none = "00110101 0000110111";
        lines(16, 8, 1, "001" + none + "1");
        lines(0, 8, 1, "001 00110101 010 1");
        lines(0, 8, 1, "001 000111 0000110111 1");
        lines(16, 8, 1, "001 000111 0000110111 001" + none + "1");
        lines(16, 8, 2, "1 001" + none);
        lines(16, 8, 1, "0000010 001 0000110111 00110101 1");
        lines(0, 8, 1, "0000010 001 0000110111 000111 1 1111");
    }

    /** "Where a line begins END can stand, too; behind it there END alone can stand: then that is the END of the picture"; "17: the END stands where a line should" */
    private static void theEndOfThePicture() {
        lines(17, 8, 1, END + END);
        lines(17, 8, 3, "11" + END + END);
        lines(0, 8, 2, "11" + END + END);
        lines(11, 8, 3, "11" + END);
        lines(11, 8, 1, END);
        lines(11, 8, 5, "1111" + END + "0000 0000");
        lines(12, 8, 1, END + "0000 0000 0000");
        lines(12, 8, 1, END + "1111");
        lines(12, 8, 1, END + "0000 0000 001");
        lines(17, 8, 1, END + "0000 0000 0001");
        lines(12, 8, 1, END + "000000000000 1111");
        lines(12, 8, 1, END + "001 1000 10 1");
    }

    /** "(.. the first one in the bits counts)" */
    private static void theFirstFaultInTheBits() {
        lines(14, 8, 2, "011 00000000 00000000");
        lines(12, 8, 2, "00000001 011 1111");
        lines(13, 8, 3, "1 0001 011 0000000");
        lines(16, 8, 2, "001 00110101 0000110111 0001 1");
        lines(15, 8, 2, "001 10100 0001 111");
        lines(13, 8, 9, "0001" + END + END);
        lines(17, 8, 9, END + END + "011");
    }

    /** "(what stands behind the last line of a strip is passed over)" */
    private static void behindTheLastLine() {
        for (String bits : new String[] {"1", "1 0001111", "1 0000000 00000000", "1" + END, "1" + END + END, "1 0111111"}) {
            lines(0, 8, 1, bits);
        }
    }

    private static Pictures white() {
        Pictures f = new Pictures(73);
        f.packed(8, 1, "1");
        return f;
    }

    /** "1: fewer than 8 bytes, or the two orders, or 42 not as said" */
    private static void fault1() {
        byte[] all = white().file();
        fault(0, all);
        for (int length = 0; length < 8; length++) {
            fault(1, Arrays.copyOf(all, length));
        }
        fault(2, Arrays.copyOf(all, 8));
        for (int first : new int[] {0, 72, 73, 74, 76, 77, 78, 255}) {
            for (int second : new int[] {0, 72, 73, 74, 76, 77, 78, 255}) {
                boolean is = first == second && (first == 73 || first == 77);
                byte[] file = all.clone();
                file[0] = (byte) first;
                file[1] = (byte) second;
                // with the other order 42 is not as said
                fault(is && first == 73 ? 0 : 1, file);
            }
        }
        for (int number : new int[] {0, 41, 43, 42 + 256, 42 << 8, 65535}) {
            fault(1, white().set(2, number, 2));
            fault(1, new Pictures(77).set(2, number, 2));
        }
    }

    /** "2: the place of a directory (of the first one also if it is 0) is less than 8 or odd, it has no entries, or it, with its next place, does not lie in the file" */
    private static void fault2() {
        Pictures f = white();
        int size = f.size();
        for (long place : new long[] {0, 1, 2, 4, 6, 7, 9, 11, size - 1, size, size + 1, size + 2, 65534, 65536, 65546, 0x7FFFFFFEL, 0x80000000L, 0x8000000AL, MOST - 1, MOST}) {
            fault(2, white().set(4, place, 4));
        }
        // at 8, too: bits at the end
        f = new Pictures(73);
        f.page(e(256, 3, 1, 8), e(257, 3, 1, 1), e(259, 3, 1, 4), e(273, 4, 1, 74), e(279, 4, 1, 1));
        f.put(128);
        Tester.due("the first directory's place", f.file()[4], 8);
        fault(0, f);
        fault(2, white().set(10, 0, 2));
        for (int cut = 1; cut <= 64; cut++) {
            fault(2, Arrays.copyOf(white().file(), size - cut));
        }
        // more entries than lie in the file: five do
        for (int entries : new int[] {6, 7, 100, 5461, 5462, 32767, 65535}) {
            fault(2, white().set(10, entries, 2));
        }
        // a good directory, but at an odd place: a byte ahead of it is left out
        byte[] even = white().file();
        byte[] odd = Arrays.copyOf(even, size - 1);
        System.arraycopy(even, 10, odd, 9, size - 10);
        odd[4] = 9;
        fault(2, odd);
        f = white();
        f.packed(8, 1, "1");
        even = f.file();
        Tester.due("the second directory's place", even[72], 78);
        odd = Arrays.copyOf(even, even.length - 1);
        System.arraycopy(even, 78, odd, 77, even.length - 78);
        odd[72] = 77;
        fault(2, odd);
        // of the next one 0 is the end, all else is a place
        f = white();
        int second = f.packed(8, 1, "1");
        fault(0, f);
        for (long place : new long[] {1, 2, 6, 7, second + 1, f.size() - 1, f.size(), f.size() + 2, 65536, MOST - 1}) {
            fault(2, f.set(second - 6, place, 4));
        }
        fault(0, f.set(second - 6, 0, 4));
    }

    /** "or the file would have more than 40 pages" */
    private static void fault2Pages() {
        Pictures f = new Pictures(73);
        for (int p = 1; p <= 42; p++) {
            f.packed(1, 1, "1");
            if (p == 39 || p == 40) {
                Tester t = fresh();
                Tester.due("fault", t.file(f.file()), 0);
                t.status(2, p);
            } else if (p > 40) {
                fault(2, f);
            }
        }
        // a directory that is its own next one, and a ring of two
        f = white();
        fault(2, f.set(f.size() - 4, 10, 4));
        f = white();
        f.packed(8, 1, "1");
        fault(2, f.set(f.size() - 4, 10, 4));
        // the fortieth page's faults are told ahead of it, those of the forty-first are not
        f = new Pictures(73);
        for (int p = 1; p <= 39; p++) {
            f.packed(1, 1, "1");
        }
        f.page(e(256, 9, 1, 1));
        f.page(e(256, 9, 1, 1));
        fault(4, f);
        f = new Pictures(73);
        for (int p = 1; p <= 40; p++) {
            f.packed(1, 1, "1");
        }
        f.page(e(256, 9, 1, 1));
        fault(2, f);
    }

    private static final int[] TAGS = {256, 257, 259, 262, 266, 273, 278, 279, 282, 283, 296};

    /** A page of 8 by 2 dots whose entries are as told, or missing. */
    private static Pictures with(int missing, long[]... entries) {
        long[][] usual = {e(256, 3, 1, 8), e(257, 3, 1, 2), e(259, 3, 1, 4), e(262, 3, 1, 0), e(266, 3, 1, 1), e(273, 4, 1, 8), e(278, 4, 1, 2),
            e(279, 4, 1, 1), e(282, 5, 1, 10), e(283, 5, 1, 10), e(296, 3, 1, 2)};
        TreeMap<Long, long[]> all = new TreeMap<>();
        for (long[] u : usual) {
            all.put(u[0], u);
        }
        for (long[] entry : entries) {
            all.put(entry[0], entry);
        }
        all.remove((long) missing);
        Pictures f = new Pictures(73);
        f.put(0xC0, 0);
        f.numbers(4, 300, 1, 0, 7);
        f.page(all.values().toArray(new long[0][]));
        return f;
    }

    /** "3: a tag that is not above the one before" */
    private static void fault3() {
        fault(0, with(0));
        for (int at = 1; at < TAGS.length; at++) {
            for (int tag : new int[] {TAGS[at - 1], TAGS[at - 1] - 1, 0}) {
                int size = with(0).size();
                int entry = size - 4 - 12 * (TAGS.length - at);
                fault(3, with(0).set(entry, tag, 2));
            }
        }
        // of tags without a meaning, too; 0 and 65535 are tags
        fault(0, with(-1, e(0, 0, 0, 0), e(1, 99, MOST, MOST), e(65534, 0, 0, 0), e(65535, 0, 0, 0)));
        Pictures f = new Pictures(73);
        f.page(e(999, 9, 1, 8), e(999, 3, 1, 1));
        fault(3, f);
        f = new Pictures(73);
        f.page(e(65535, 9, 1, 8), e(0, 3, 1, 1));
        fault(3, f);
        f = new Pictures(77);
        f.page(e(0, 9, 1, 8), e(0, 3, 1, 1));
        fault(3, f);
    }

    private static boolean many(int tag) {
        return tag == 273 || tag == 279;
    }

    /** "4: a TYPE that it can not have; a COUNT that is 0, above 4096, or not 1 where it must be 1" */
    private static void fault4() {
        for (int tag : TAGS) {
            boolean two = tag == 282 || tag == 283;
            boolean shortOnly = tag == 259 || tag == 262 || tag == 266 || tag == 296;
            long value = tag == 256 || tag == 273 ? 8 : tag == 257 || tag == 278 || tag == 296 ? 2 : tag == 259 ? 4 : tag == 262 ? 0 : two ? 10 : 1;
            for (int type : new int[] {0, 1, 2, 3, 4, 5, 6, 7, 12, 259, 260, 261, 65535}) {
                boolean can = two ? type == 5 : type == 3 || type == 4 && !shortOnly;
                fault(can ? 0 : 4, with(0, e(tag, type, 1, value)));
            }
            int type = two ? 5 : 3;
            for (long count : new long[] {0, 4097, 4098, 65536, 65537, 0x80000000L, MOST}) {
                fault(4, with(0, e(tag, type, count, 10)));
            }
            for (long count : new long[] {2, 3, 4095, 4096}) {
                // of strips that is a count that can be, but is not that of the strips, or does not lie in the file
                int want = !many(tag) ? 4 : count <= 3 ? 8 : 5;
                fault(want, with(0, e(tag, type, count, 10, 10)));
            }
        }
    }

    /** "5: what it says does not lie in the file" */
    private static void fault5() {
        int size = with(0).size();
        for (int tag : new int[] {282, 283}) {
            fault(7, with(0, e(tag, 5, 1, size - 8)));
            for (long place : new long[] {size - 7, size - 1, size, size + 1, 65536, MOST - 7, MOST}) {
                fault(5, with(0, e(tag, 5, 1, place)));
            }
            // it may stand anywhere in the file, at an odd place, too
            fault(0, with(0, e(tag, 5, 1, 0)));
            fault(0, with(0, e(tag, 5, 1, 1)));
        }
        for (int tag : new int[] {273, 279}) {
            int[][] sizes = {{3, 3, 6}, {3, 4, 8}, {4, 2, 8}, {4, 3, 12}};
            for (int[] s : sizes) {
                fault(8, with(0, e(tag, s[0], s[1], size - s[2])));
                fault(5, with(0, e(tag, s[0], s[1], size - s[2] + 1)));
                fault(5, with(0, e(tag, s[0], s[1], size)));
                fault(5, with(0, e(tag, s[0], s[1], MOST)));
                fault(5, with(0, e(tag, s[0], s[1], MOST - s[2] + 1)));
                fault(8, with(0, e(tag, s[0], s[1], 0)));
            }
            // two SHORTs, or a LONG, need four bytes: they stand in the entry, whatever they are
            fault(8, with(0, e(tag, 3, 2, 65535, 65535)));
            fault(9, with(0, e(tag, 4, 1, MOST)));
        }
        // 4096 of them: 8192 bytes from a place on
        Pictures f = new Pictures(73);
        long[] eights = new long[4096];
        Arrays.fill(eights, 8);
        int place = f.numbers(2, eights);
        f.page(e(256, 3, 1, 8), e(257, 3, 1, 4096), e(273, 3, 4096, place), e(278, 3, 1, 1), e(279, 3, 4096, place));
        Tester t = fresh();
        Tester.due("fault of 4096 strips", t.file(f.file()), 0);
        t.status(2, 1);
    }

    /** "6: 256, 257, 273 or 279 is not there" */
    private static void fault6() {
        for (int tag : TAGS) {
            fault(tag == 256 || tag == 257 || many(tag) ? 6 : tag == 259 ? 18 : 0, with(tag));
        }
        Pictures f = new Pictures(73);
        f.page(e(255, 3, 1, 8), e(258, 3, 1, 1));
        fault(6, f);
    }

    /** "7: WIDTH or HEIGHT is 0 or above 20000; CODE .. neither 1 nor 4 ..; INK not 0 or 1 ..; FILL not 1 or 2 ..; ROWS 0 ..; UNIT not 1 .. 3 ..; a FINENESS whose second number is 0" */
    private static void fault7() {
        long[][] wrong = {e(256, 3, 1, 0), e(256, 3, 1, 20001), e(256, 3, 1, 65535), e(256, 4, 1, 65536 + 8), e(256, 4, 1, MOST), e(256, 4, 1, 0x80000008L), e(257, 3, 1, 0),
            e(257, 3, 1, 20001), e(257, 4, 1, 65536 + 2), e(257, 4, 1, MOST), e(259, 3, 1, 0), e(259, 3, 1, 2), e(259, 3, 1, 3), e(259, 3, 1, 5), e(259, 3, 1, 65535),
            e(262, 3, 1, 2), e(262, 3, 1, 65535), e(266, 3, 1, 0), e(266, 3, 1, 3), e(266, 3, 1, 65535), e(278, 3, 1, 0), e(278, 4, 1, 0), e(296, 3, 1, 0),
            e(296, 3, 1, 4), e(296, 3, 1, 65535), e(282, 5, 1, 14), e(283, 5, 1, 14)};
        for (long[] w : wrong) {
            fault(7, with(0, w));
        }
        long[][] good = {e(256, 3, 1, 1), e(256, 3, 1, 10000), e(256, 4, 1, 8), e(257, 3, 1, 1), e(257, 4, 1, 2), e(262, 3, 1, 1), e(278, 3, 1, 2), e(278, 3, 1, 3), e(278, 4, 1, MOST),
            e(296, 3, 1, 1), e(296, 3, 1, 3), e(282, 5, 1, 18), e(283, 5, 1, 18)};
        for (long[] g : good) {
            // the first number of a FINENESS may be 0
            fault(0, with(0, g));
        }
        fault(19, with(0, e(256, 3, 1, 20000)));
        fault(11, with(278, e(257, 3, 1, 20000)));
        fault(18, with(0, e(259, 3, 1, 1)));
        // what is not there: CODE 1, INK 0, FILL 1, ROWS HEIGHT, UNIT 2, FINENESS 300
        Pictures f = new Pictures(73);
        f.plain(8, 2, 0xF0, 0x0F);
        Tester t = fresh();
        Tester.due("fault", t.file(f.file()), 0);
        t.conclude();
        t.dots(0, 0, 0, "####....").dots(0, 1, 0, "....####");
        int fine = (int) (8 + t.sheetOf(0, 3) + t.sheetOf(0, 3) % 2);
        Tester.due("FINENESS", t.x.bytesAt(fine / 8) >>> 56 - 8 * (fine % 8) & 255, 300 & 255);
    }

    /** "8: the COUNT of PLACES or LENGTHS is not that of the strips, or those of this page and the ones before it are more than 8192" */
    private static void fault8() {
        // (HEIGHT + ROWS - 1) / ROWS strips: two lines
        long[][] rows = {e(1, 2), e(2, 1), e(3, 1), e(MOST, 1)};
        for (long[] r : rows) {
            for (int places = 1; places <= 3; places++) {
                for (int lengths = 1; lengths <= 3; lengths++) {
                    long[] p = places == 3 ? e(273, 3, 3, 8) : e(273, 3, places, 8, 8);
                    long[] l = lengths == 3 ? e(279, 3, 3, 8) : e(279, 3, lengths, 1, 1);
                    fault(places == r[1] && lengths == r[1] ? 0 : 8, with(0, p, l, e(278, 4, 1, r[0])));
                }
            }
        }
        // more strips than can have places
        fault(8, with(0, e(257, 3, 1, 20000), e(278, 3, 1, 1)));
        for (int more = 0; more <= 2; more++) {
            // 4096 + 4095 strips, and then none, one, or two more
            Pictures f = new Pictures(77);
            long[] eights = new long[4096];
            Arrays.fill(eights, 8);
            int place = f.numbers(2, eights);
            f.page(e(256, 3, 1, 8), e(257, 3, 1, 4096), e(273, 3, 4096, place), e(278, 3, 1, 1), e(279, 3, 4096, place));
            f.page(e(256, 3, 1, 8), e(257, 3, 1, 4095), e(273, 3, 4095, place), e(278, 3, 1, 1), e(279, 3, 4095, place));
            for (int i = 0; i < more; i++) {
                f.page(e(256, 3, 1, 8), e(257, 3, 1, 1), e(273, 3, 1, 8), e(278, 3, 1, 1), e(279, 3, 1, 8));
            }
            Tester t = fresh();
            Tester.due("fault of many strips", t.file(f.file()), more == 2 ? 8 : 0);
            t.status(2, more == 2 ? 0 : 2 + more);
            // those of another file are not counted
            if (more < 2) {
                Tester.due("fault of the next file", t.file(with(0, e(273, 3, 2, 8, 8), e(278, 3, 1, 1), e(279, 3, 2, 1, 1)).file()), 0);
            }
        }
    }

    /** "9: a strip whose place is below 8, or that does not lie in the file (with a LENGTH 0 it does where its place is not above the file's length)" */
    private static void fault9() {
        int size = with(0).size();
        for (long place : new long[] {0, 1, 7, size, size + 1, 65536, 65544, MOST, 0x80000008L}) {
            fault(9, with(0, e(273, 4, 1, place)));
        }
        fault(0, with(0, e(273, 4, 1, 8)));
        fault(12, with(0, e(273, 4, 1, 9), e(279, 4, 1, size - 9)));
        fault(9, with(0, e(273, 4, 1, 9), e(279, 4, 1, size - 8)));
        fault(0, with(0, e(279, 4, 1, size - 8)));
        for (long length : new long[] {size - 7, size, 65536, MOST - 7, MOST}) {
            fault(9, with(0, e(279, 4, 1, length)));
        }
        // a LENGTH 0
        for (long place : new long[] {8, size - 1, size}) {
            fault(11, with(0, e(273, 4, 1, place), e(279, 4, 1, 0)));
        }
        for (long place : new long[] {0, 7, size + 1, MOST}) {
            fault(9, with(0, e(273, 4, 1, place), e(279, 4, 1, 0)));
        }
        // any of the strips
        fault(9, with(0, e(273, 3, 2, 8, 7), e(278, 3, 1, 1), e(279, 3, 2, 1, 1)));
        fault(9, with(0, e(273, 3, 2, 7, 8), e(278, 3, 1, 1), e(279, 3, 2, 1, 1)));
        fault(9, with(0, e(273, 3, 2, 8, 8), e(278, 3, 1, 1), e(279, 3, 2, 1, size - 7)));
        fault(0, with(0, e(273, 3, 2, 8, 8), e(278, 3, 1, 1), e(279, 3, 2, 1, size - 8)));
    }

    /** "the first of these that is so is the FAULT; .. first 2 to 5 for all of a page's entries one by one, then 6 to 9" */
    private static void theFirstFault() {
        // 3, 4 and 5 by the first entry that has one
        Pictures f = new Pictures(73);
        f.page(e(257, 9, 1, 8), e(256, 3, 1, 1));
        fault(4, f);
        f = new Pictures(73);
        f.page(e(257, 3, 1, 8), e(256, 9, 1, 1));
        fault(3, f);
        f = new Pictures(73);
        f.page(e(273, 3, 9, 60000), e(279, 9, 1, 1));
        fault(5, f);
        f = new Pictures(73);
        f.page(e(273, 9, 9, 60000), e(279, 3, 9, 60000));
        fault(4, f);
        fault(4, with(0, e(273, 3, 9, 10), e(282, 5, 0, 10)));
        // 4 ahead of 5 in one entry, 3 ahead of 4
        fault(4, with(0, e(282, 5, 2, MOST)));
        fault(4, with(0, e(273, 5, 9, MOST)));
        // 2 to 5 ahead of 6, 6 ahead of 7, 7 ahead of 8, 8 ahead of 9
        fault(5, with(256, e(283, 5, 1, MOST)));
        fault(4, with(257, e(296, 3, 0, 2)));
        fault(6, with(279, e(256, 3, 1, 0)));
        fault(7, with(0, e(256, 3, 1, 0), e(273, 3, 2, 0, 0)));
        fault(8, with(0, e(273, 3, 2, 0, 0)));
        // 2 of a page ahead of all of its entries; the next place is looked at behind its page
        fault(2, with(0, e(256, 9, 1, 1)).set(26, 12, 2));
        f = with(0, e(256, 9, 1, 1));
        fault(4, f.set(f.size() - 4, 7, 4));
        f = with(0, e(273, 4, 1, 7));
        fault(9, f.set(f.size() - 4, 7, 4));
        f = with(0);
        fault(2, f.set(f.size() - 4, 7, 4));
    }

    /** "pages are gone through one by one": a fault of the first one ahead of a lower one of the second; 1 to 9 of all ahead of 10 and more of any */
    private static void pagesOneByOne() {
        Pictures f = new Pictures(73);
        f.page(e(256, 3, 1, 8), e(257, 3, 1, 1), e(273, 4, 1, 7), e(279, 4, 1, 1));
        f.page(e(256, 9, 1, 8));
        fault(9, f);
        f = new Pictures(73);
        f.packed(8, 1, "011 11111");
        f.page(e(256, 3, 1, 8), e(257, 3, 1, 1), e(273, 4, 1, 7), e(279, 4, 1, 1));
        fault(9, f);
        f = new Pictures(73);
        f.packed(8, 1, "011 11111");
        f.packed(10001, 1, "1");
        fault(14, f);
        f = new Pictures(73);
        f.packed(10001, 1, "1");
        f.packed(8, 1, "011 11111");
        fault(19, f);
    }

    /** "18: a strip with CODE 1 has too few bytes" */
    private static void fault18() {
        for (int width : new int[] {1, 8, 9, 16, 17}) {
            int bytes = (width + 7) / 8;
            for (int off = -1; off <= 1; off++) {
                Pictures f = new Pictures(73);
                f.plain(width, 3, new int[3 * bytes + off]);
                fault(off < 0 ? 18 : 0, f);
            }
        }
        // each strip by itself: of two lines, and the last one of one
        int[][] lengths = {{2, 1, 0}, {1, 1, 18}, {2, 0, 18}, {3, 0, 18}, {1, 2, 18}, {3, 3, 0}};
        for (int[] l : lengths) {
            Pictures f = new Pictures(73);
            int place = f.put(1, 2, 3, 4);
            f.page(e(256, 3, 1, 8), e(257, 3, 1, 3), e(273, 3, 2, place, place), e(278, 3, 1, 2), e(279, 3, 2, l[0], l[1]));
            fault(l[2], f);
        }
        // 20000 lines of 1250 bytes do not turn about into a small number
        Pictures f = new Pictures(73);
        f.plain(10000, 20000, new int[2000]);
        fault(18, f);
    }

    /** "19: WIDTH is above 10000 (ahead of 10 to 18 of that page)" */
    private static void fault19() {
        for (int width : new int[] {9999, 10000, 10001, 20000}) {
            Pictures f = new Pictures(73);
            f.packed(width, 1, "1");
            fault(width > 10000 ? 19 : 0, f);
            f = new Pictures(73);
            f.packed(width, 1, "011 1");
            fault(width > 10000 ? 19 : 14, f);
            f = new Pictures(73);
            f.plain(width, 1, new int[1]);
            fault(width > 10000 ? 19 : 18, f);
        }
        fault(7, with(0, e(256, 3, 1, 20001)));
    }

    /** A file with pages of white lines of these heights, all from the same few bytes. */
    private static byte[] heights(int... heights) {
        Pictures f = new Pictures(73);
        int[] white = new int[200];
        Arrays.fill(white, 255);
        int place = f.put(white);
        for (int h : heights) {
            int n = (h + 1599) / 1600;
            long[] same = new long[n];
            Arrays.fill(same, place);
            int places = n == 1 ? place : f.numbers(4, same);
            Arrays.fill(same, 200);
            int lengths = n == 1 ? 200 : f.numbers(4, same);
            f.page(e(256, 3, 1, 9), e(257, 3, 1, h), e(259, 3, 1, 4), e(273, 4, n, places), e(278, 3, 1, 1600), e(279, 4, n, lengths));
        }
        return f.file();
    }

    /** "If there would be more than 40 pages, or the FILE more than 60000 bytes with the strip (and the byte 0 ahead of it, if there is one), the job FAILS: 20" */
    private static void fault20() {
        // 22 pages of 2503 bytes, one byte 0 and 142 bytes behind each: 8 + 22 * 2646 = 58220
        int[] many = new int[22];
        Arrays.fill(many, 20000);
        byte[] most = heights(many);
        for (int off = -8; off <= 8; off++) {
            Tester t = fresh();
            Tester.due("fault", t.file(most), 0);
            // 1780 bytes are left: 1780 * 8 bits, of which two ENDs have 24
            Tester.due("fault", t.file(heights(1780 * 8 - 24 + off)), off > 0 ? 20 : 0);
            t.status(2, off > 0 ? 22 : 23);
            Tester.due("conclude", t.conclude(), off > 0 ? 20 : 0);
            t.status(23, off > 0 ? 22 : 23).status(22, off > 0 ? 58220 : 60142);
        }
        // behind all lines of the page: a fault of the last one is told ahead of it
        Tester t = fresh();
        t.file(most);
        t.file(heights(1780 * 8 - 24));
        t.status(3, 0).status(2, 23);
        Pictures f = new Pictures(73);
        f.packed(8, 2, "1 0001 111");
        Tester.due("fault", t.file(f.file()), 13);
        t.conclude();
        // .. also if the lines ahead of it have many bytes, for which there is no room, coded or plain
        t = fresh();
        t.file(most);
        t.file(heights(1780 * 8 - 24));
        f = new Pictures(73);
        f.packed(8, 200, "1".repeat(199) + "0001 111");
        Tester.due("fault", t.file(f.file()), 13);
        t.conclude();
        t = fresh();
        t.file(most);
        t.file(heights(1780 * 8 - 24));
        Pictures plain = new Pictures(77);
        int dots = plain.put(170, 85, 51, 204, 15, 240, 85, 170, 1, 2, 3, 4, 5, 6, 7);
        int places = plain.numbers(4, dots, dots);
        int lengths = plain.numbers(4, 8, 7);
        plain.page(e(256, 3, 1, 8), e(257, 3, 1, 16), e(273, 4, 2, places), e(278, 3, 1, 8), e(279, 4, 2, lengths));
        Tester.due("fault", t.file(plain.file()), 18);
        t.status(2, 23).conclude();
        // pages: 40 are there, one more is not
        t = fresh().stream("\f".repeat(39));
        Tester.due("fault", t.file(heights(1)), 0);
        t.status(2, 40);
        Tester.due("fault", t.file(heights(1)), 20);
        t.status(2, 40);
        t.conclude();
        t = fresh().stream("\f".repeat(38));
        Tester.due("fault", t.file(heights(1, 2, 3)), 20);
        t.status(2, 40).conclude();
        Tester.due("the last page", t.sheetOf(39, 1), 2);
        // a sheet: 107 bytes and 143 behind them; 1780 bytes have room for 7, and 30 bytes more are none for the eighth
        t = fresh();
        t.file(most);
        t.stream("\f".repeat(7)).status(3, 0).status(2, 29).stream("\f").status(3, 20).status(2, 29);
        t.conclude();
        t.status(22, 58220 + 7 * 250);
        t = fresh();
        t.file(most);
        t.stream("\33&l9X\f").status(3, 20).status(2, 29);
        // copies of a strip of 102 bytes: the second one ends at 60000, or two bytes behind it
        for (int off = 0; off <= 2; off += 2) {
            t = fresh();
            t.file(most);
            Tester.due("fault", t.file(heights((1292 + off) * 8 - 24)), 0);
            t.stream("\33&l1a2X\f").status(3, off == 0 ? 0 : 20).status(2, off == 0 ? 25 : 24);
            t.conclude();
            t.status(22, off == 0 ? 60142 : 59656 + 244);
        }
    }

    /** "21: 300 pages of PICTURE FILES have been come to before, in all jobs (ahead of 10 to 20)" (512 calls do not come to that; what is answered here is the class's own) */
    private static void fault21() {
        Tester t = Tester.beyond(75, 16);
        Pictures forty = new Pictures(73);
        for (int p = 0; p < 40; p++) {
            forty.packed(1, 1, "1");
        }
        for (int i = 0; i < 7; i++) {
            Tester.due("fault", t.file(forty.file()), 0);
            t.conclude();
        }
        // 280, and 18 more: those with a fault of 10 to 20 are come to, those of a file with one of 1 to 9 are not
        for (int i = 0; i < 18; i++) {
            Pictures f = new Pictures(73);
            f.packed(i % 2 == 0 ? 10001 : 8, 1, "011 11111");
            Tester.due("fault", t.file(f.file()), i % 2 == 0 ? 19 : 14);
            t.conclude();
            Tester.due("fault", t.file(with(256).file()), 6);
            t.conclude();
        }
        Pictures last = new Pictures(73);
        for (int p = 0; p < 3; p++) {
            last.packed(p < 2 ? 1 : 10001, 1, p < 2 ? "1" : "0001 1111");
        }
        Tester.due("the 301st page", t.file(last.file()), 21);
        t.status(2, 2);
        Tester.due("conclude", t.conclude(), 21);
        t.status(23, 2);
        Tester.due("no more", t.file(white().file()), 21);
        t.conclude();
        Tester.due("but for 1 to 9", t.file(with(0, e(256, 3, 1, 0)).file()), 7);
        t.conclude();
        t.stream("\f").status(2, 1).status(3, 0);
    }

    /** "FINENESS as it was read, but at least 1 and at most 10000, the first number divided by the second" */
    private static void fineness() {
        long[][] want = {{0, 1, 1}, {1, 1, 1}, {1, 2, 1}, {2, 2, 1}, {3, 2, 1}, {4, 2, 2}, {9999, 1, 9999}, {10000, 1, 10000}, {10001, 1, 10000}, {20001, 2, 10000}, {19999, 2, 9999},
            {MOST, 1, 10000}, {MOST, MOST, 1}, {0, MOST, 1}, {MOST - 1, MOST, 1}, {MOST, 0x80000000L, 1}, {MOST, 0x7FFFFFFFL, 2}, {0x80000000L, 1, 10000}, {0x80000000L, 300000, 7158}};
        for (long[] w : want) {
            for (int down = 0; down < 2; down++) {
                Pictures f = new Pictures(73);
                f.put(0x80, 0);
                int place = f.numbers(4, w[0], w[1], 120, 1);
                f.page(e(256, 3, 1, 8), e(257, 3, 1, 1), e(259, 3, 1, 4), e(273, 4, 1, 8), e(279, 4, 1, 1), e(282, 5, 1, place + 8 * down), e(283, 5, 1, place + 8 - 8 * down));
                Tester t = fresh();
                Tester.due("fault", t.file(f.file()), 0);
                t.conclude();
                // 25 bits of the strip in four bytes: FINENESS stands at 12 and 20
                Tester.due("FINENESS across", Integer.toUnsignedLong(Integer.reverseBytes((int) t.x.bytesAt(1))), down == 0 ? w[2] : 120);
                Tester.due("FINENESS down", Integer.toUnsignedLong(Integer.reverseBytes((int) t.x.bytesAt(2))), down == 0 ? 120 : w[2]);
            }
        }
    }

    private static void read(String bits, String... want) {
        Pictures f = new Pictures(73);
        f.packed(want[0].length(), want.length, bits);
        Tester t = fresh();
        Tester.due("fault of " + bits, t.file(f.file()), 0);
        t.conclude();
        for (int j = 0; j < want.length; j++) {
            t.dots(0, j, 0, want[j]);
        }
    }

    /** "The dots between are of the COLOUR": a run of 0 dots has none, and makes no change */
    private static void runsOf0Dots() {
        read("001 1000 0000110111 1", "........");
        read("001 1000 0000110111 001 0111 10 1 1 1 1", ".....###..", ".....###..");
        read("0000010 001 0000110111 000111 1 1 1", "......##", "......##");
        read("0000010 001 0000110111 0111 001 010 00110101 1 1 1", "........#", "........#");
        read("001 00110101 010 001 00110101 10 1 1 1 1", "####....", "####....");
        read("010 001 0000110111 000111", "..");
        read("001 00110101 0011 010 001 010 00110101", "#####......#");
    }

    /** "With FILL 2 the bits of every byte are turned about first; with INK 1 black and white change over." */
    private static void fillAndInk() {
        String[][] pages = {{"001 00110101 11 001 0111 10 1", "##..###."}, {"1", "........"}, {"001 00110101 000101", "########"}, {"001 0111 11 1", "..##...."},
            {"0000010 1", ".....###"}, {"001 00110101 010 0000010 1", "#....###"}};
        for (String[] p : pages) {
            for (int fill = 1; fill <= 2; fill++) {
                for (int ink = 0; ink <= 1; ink++) {
                    for (int code = 1; code <= 4; code += 3) {
                        Pictures f = new Pictures(73);
                        int place = code == 4 ? f.bits(p[0] + " 1 1 1 1 1 1") : f.bits(p[1].replace('#', '1').replace('.', '0').repeat(2));
                        int length = f.size() - place;
                        byte[] raw = f.file();
                        for (int i = place; i < place + length && fill == 2; i++) {
                            f.set(i, Integer.reverse(raw[i]) >>> 24, 1);
                        }
                        f.page(e(256, 3, 1, 8), e(257, 3, 1, 2), e(259, 3, 1, code), e(262, 3, 1, ink), e(266, 3, 1, fill), e(273, 4, 1, place), e(279, 4, 1, length));
                        Tester t = fresh();
                        Tester.due("fault", t.file(f.file()), 0);
                        t.conclude();
                        String want = ink == 0 ? p[1] : p[1].replace('#', '+').replace('.', '#').replace('+', '.');
                        t.dots(0, 0, 0, want + "....").dots(0, 1, 0, want + "....");
                    }
                }
            }
        }
    }

    /** "the dots of its strips, each of ROWS lines but the last one, which may have fewer: with CODE 4 as CODED LINES, from a white line above on" */
    private static void lastStripMayHaveFewerLines() {
        for (int height = 1; height <= 7; height++) {
            for (int rows = 1; rows <= 8; rows++) {
                int strips = (height + rows - 1) / rows;
                Pictures f = new Pictures(73);
                // each strip begins with a line ..##.... and goes on with the same
                int a = f.bits("001 0111 11 1" + " 111".repeat(7));
                long[] places = new long[strips];
                long[] lengths = new long[strips];
                Arrays.fill(places, a);
                Arrays.fill(lengths, f.size() - a);
                int atPlaces = f.numbers(4, places);
                int atLengths = f.numbers(4, lengths);
                f.page(e(256, 3, 1, 8), e(257, 3, 1, height), e(259, 3, 1, 4), e(273, 4, strips, strips == 1 ? a : atPlaces), e(278, 3, 1, rows),
                        e(279, 4, strips, strips == 1 ? lengths[0] : atLengths));
                Tester t = fresh();
                Tester.due("fault", t.file(f.file()), 0);
                t.conclude();
                for (int y = 0; y < height; y++) {
                    t.dots(0, y, 0, "..##....");
                }
                Tester.due("down", t.sheetOf(0, 1), height);
            }
        }
    }

    /** "pages before the one with the FAULT stay"; what is left of the file is passed over */
    private static void pagesBeforeStay() {
        for (int bad = 0; bad < 4; bad++) {
            Pictures f = new Pictures(73);
            for (int p = 0; p < 4; p++) {
                f.packed(8 + p, 1, p == bad ? "011 11111" : "1");
            }
            Tester t = fresh().stream("\f");
            Tester.due("fault", t.file(f.file()), 14);
            t.status(2, 1 + bad);
            Tester.due("conclude", t.conclude(), 14);
            t.status(23, 1 + bad);
            for (int p = 0; p < bad; p++) {
                Tester.due("across", t.sheetOf(1 + p, 0), 8 + p);
            }
            Tester.due("the page with the fault", t.sheetOf(1 + bad, 0), Tester.INDEX);
        }
    }
}
