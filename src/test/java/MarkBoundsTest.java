import java.util.Arrays;

/** The bounds of rules, inks, rasters, marks and sheets, sentence by sentence. */
public final class MarkBoundsTest {
    public static void main(String[] args) {
        oneMoreIfSomethingIsLeftOver();
        withoutDots();
        anyOtherRule();
        shades1To100();
        hatches1To6();
        theInk();
        sourceAndInkOpaque();
        theResolution();
        notWhileOneIsOpen();
        sidesNotAbove5119();
        openedUnlessOneIs();
        methods0To3();
        rowGrowsAtMostTo();
        nothingIfNoneIsOpen();
        opensByItself();
        noneBehindTheHeight();
        ended();
        scaleAtLeast1();
        lengthOfARow();
        dotsFromTheWidthOn();
        unpackedAsTheyAre();
        unpackedInPairs();
        unpackedByRuns();
        unpackedByChanges();
        rowsOf4096Bytes();
        theSeedAtFirst();
        upToTheLastBlackDot();
        whatIsLeftOverIsDropped();
        wherever();
        offTheSheet();
        toTheEdges();
        roomFor4096Marks();
        roomFor65536Bytes();
        noMarkWithoutDots();
        overrunSheets();
        atMost40Pages();
        failedAtAnEject();
        behindTheEndOfAJob();
        Tester.end();
    }

    private static Tester fresh() {
        return new Tester(75, 16);
    }

    /** "of as many dots as the width and height have by DPI (w * DPI / 7200, one more if something is left over)" */
    private static void oneMoreIfSomethingIsLeftOver() {
        for (int dpi : new int[] {75, 150, 300}) {
            int dot = 7200 / dpi;
            for (int dots = 1; dots <= 3; dots++) {
                for (int off = -1; off <= 1; off++) {
                    int units = dots * dot + off;
                    String w = units / 10 + "." + units % 10;
                    int want = (units + dot - 1) / dot;
                    Tester t = new Tester(dpi, 16).stream("\33*p0x0Y\33*c" + w + "h" + w + "v0P");
                    t.conclude();
                    int x = 1800 / dot;
                    int y = 3600 / dot;
                    for (int j = -1; j <= want; j++) {
                        t.dots(0, y + j, x - 1, j < 0 || j == want ? "......" : "." + "#".repeat(want) + ".");
                    }
                }
            }
        }
        // told in dots of 24 units: 4 of them are one at 75 dpi, 5 are two
        for (int n = 1; n <= 9; n++) {
            Tester t = fresh().stream("\33*p0x0Y\33*c" + n + "a" + n + "b0P");
            t.conclude();
            t.dots(0, 37, 17, "." + "#".repeat((n + 3) / 4) + ".").dots(0, 37 + (n + 3) / 4 - 1, 17, ".#").dots(0, 37 + (n + 3) / 4, 17, "..");
        }
        // the largest rule does not turn about
        for (int dpi : new int[] {75, 300}) {
            Tester t = new Tester(dpi, 64).stream("\33*p0x0Y\33*c32767a32767b0P");
            t.conclude();
            int wide = 61200 * dpi / 7200;
            t.dots(0, 79200 * dpi / 7200 - 1, wide - 3, "###...").dots(0, 3600 * dpi / 7200, wide - 3, "###...");
            t = new Tester(dpi, 64).stream("\33*p0x0Y\33*c32767.9999h32767.9999v0P").status(4, 1);
            t.conclude();
            t.dots(0, 79200 * dpi / 7200 - 1, wide - 3, "###...");
        }
    }

    /** "without dots .. none" */
    private static void withoutDots() {
        for (String s : new String[] {"0a9B", "9a0B", "0a0B", ".09h9B", "9a.09V", "0h0V", "-9a9B", "9a-9B", "0.9a9B", "-1h5V"}) {
            fresh().stream("\33*c" + s + "\33*cP\33*c1P").status(4, 0).status(6, 0).stream("\33E").status(2, 0);
            Refused.nothing(Refused.SETUP + "\33*c" + s, "\33*cP");
        }
        fresh().stream("\33*c.1h.1v0P").status(4, 1);
        fresh().stream("\33*cP").status(4, 0);
    }

    /** "an ink that is none, or any other n: none" */
    private static void anyOtherRule() {
        for (String n : new String[] {"4", "6", "7", "256", "261", "32767"}) {
            fresh().stream("\33*c9a9b" + n + "P").status(4, 0);
            Refused.nothing("\33*c" + n + "P");
        }
        for (String n : new String[] {"0", "1", "5", "-1"}) {
            fresh().stream("\33*c9a9b" + n + "P").status(4, 1);
        }
        for (String n : new String[] {"2", "3"}) {
            fresh().stream("\33*c9a9b" + n + "P").status(4, 0);
            fresh().stream("\33*c9a9b1g" + n + "P").status(4, 1);
        }
    }

    /** "2, a SHADE of s, 1 .. 100" */
    private static void shades1To100() {
        for (int s : new int[] {0, 1, 2, 99, 100, 101, 102, 127, 128, 129, 256, 32767}) {
            boolean is = s >= 1 && s <= 100;
            Tester t = fresh().stream("\33*p0x0Y\33*c100a100b" + s + "g2P").status(4, is ? 1 : 0);
            t.stream("\33*v2T\33*c5P").status(4, is ? 2 : 1);
            t.conclude();
            // D is 0 at the first dot of eight by eight: it is black in every shade, and in 100 all are
            if (is) {
                t.dots(0, 40, 24, "#");
            }
            t = fresh().stream("\33*c7g\33*v3T\33*c" + s + "G\33*v2T\33*p0x0Y\33*c100a100b5P");
            t.conclude();
            t.dots(0, 47, 25, s < 1 || s > 98 ? "#" : ".");
        }
        // (64 * s + 99) / 100 dots of 64
        for (int s = 1; s <= 100; s++) {
            Tester t = fresh().stream("\33*p0x0Y\33*c100a100b" + s + "g2P");
            t.conclude();
            int black = 0;
            for (int y = 40; y < 48; y++) {
                black += Long.bitCount(t.x.printed(0, y, 0) >>> 32 & 255);
            }
            Tester.due("black dots in the shade " + s, black, (64 * s + 99) / 100);
        }
    }

    /** "3, a HATCH of 1 .. 6" */
    private static void hatches1To6() {
        for (int h : new int[] {0, 1, 2, 3, 4, 5, 6, 7, 8, 256, 257, 32767}) {
            boolean is = h >= 1 && h <= 6;
            fresh().stream("\33*c9a9b" + h + "g3P").status(4, is ? 1 : 0);
            fresh().stream("\33*v1T\33*c" + h + "G\33*v3T\33*c90a90b5P").status(4, 1).stream("\33E").status(2, 1);
            if (!is) {
                Refused.nothing(Refused.SETUP + "\33*c" + h + "G", "\33*v3T\33*c3P");
            }
        }
        int[] black = {32, 32, 32, 32, 60, 60};
        for (int h = 1; h <= 6; h++) {
            Tester t = fresh().stream("\33*p0x0Y\33*c200a200b" + h + "g3P");
            t.conclude();
            int dots = 0;
            for (int y = 48; y < 64; y++) {
                dots += Long.bitCount(t.x.printed(0, y, 0) >>> 16 & 0xFFFF);
            }
            Tester.due("black dots in the hatch " + h, dots, black[h - 1]);
        }
    }

    /** "* v T: the INK is black (0), white (1), the SHADE, HATCH that the PATTERN is at this command (2, 3; nothing if there is none)" */
    private static void theInk() {
        for (String n : new String[] {"4", "5", "6", "256", "257", "32767"}) {
            Refused.nothing("\33*v" + n + "T");
        }
        for (String pattern : new String[] {"0", "101", "32767"}) {
            Refused.nothing(Refused.SETUP + "\33*c" + pattern + "G", "\33*v2T");
        }
        for (String pattern : new String[] {"0", "7", "100", "32767"}) {
            Refused.nothing(Refused.SETUP + "\33*c" + pattern + "G", "\33*v3T");
        }
        Refused.something("\33*v0T");
        Refused.something("\33*v1T");
        Refused.something("\33*v2T");
        // a later PATTERN does not change the INK
        Tester t = fresh().stream("\33*c1G\33*v3T\33*c2g\33*p0x0Y\33*c400a400b5P");
        t.conclude();
        t.dots(0, 39, 18, "################").dots(0, 41, 18, "................");
    }

    /** "* v N: the SOURCE is OPAQUE if n is 1, not if 0; * v O: the INK likewise" */
    private static void sourceAndInkOpaque() {
        for (String n : new String[] {"2", "3", "256", "257", "32767"}) {
            Refused.nothing("\33*v" + n + "N");
            Refused.nothing("\33*v" + n + "O");
            Refused.nothing(Refused.SETUP + "\33*v0n0O", "\33*v" + n + "n" + n + "O");
        }
        Refused.something("\33*v0O\33*p0x0Y\33*c0P\33*p0x0Y\33*c3P");
        String field = "\33*p0x0Y\33*c80a80b0P\33*p8x8Y";
        String[][] ways = {{"\33*v0N", "########"}, {"\33*v1N", "##..####"}, {"\33*v1n2N", "##..####"}, {"\33*v1n0N", "########"}};
        for (String[] w : ways) {
            Tester t = fresh().stream(field + w[0] + "\33*r1A\33*b1W\40");
            t.conclude();
            t.dots(0, 39, 18, w[1]);
        }
        String[][] inks = {{"\33*v1T", "########"}, {"\33*v1o1T", "##.#####"}, {"\33*v1o2o1T", "##.#####"}, {"\33*v1o0o1T", "########"}};
        for (String[] w : inks) {
            Tester t = fresh().stream(field + w[0] + "\33*r1A\33*b1W\200");
            t.conclude();
            t.dots(0, 39, 18, w[1]);
        }
    }

    /** "* t R: the RESOLUTION is n, if that is 75, 100, 150 or 300 and no raster is OPEN" */
    private static void theResolution() {
        for (int n : new int[] {75, 100, 150, 300}) {
            Tester t = new Tester(300, 64).stream("\33*t300r" + n + "R\33*p0Y\33*b1W\200\33*rC").at(0, 3600 + 300 / n * 24);
            t.conclude();
            t.dots(0, 150, 74, "." + "#".repeat(300 / n) + ".");
        }
        for (String n : new String[] {"0", "1", "74", "76", "99", "101", "149", "151", "200", "299", "301", "600", "32767", "-75"}) {
            new Tester(300, 64).stream("\33*t150r" + n + "R\33*p0Y\33*b1W\200\33*rC").at(0, 3648);
            Refused.nothing("\33*t" + n + "R");
        }
    }

    private static void notWhileOneIsOpen() {
        for (int n : new int[] {75, 100, 150, 300}) {
            Refused.nothing(Refused.SETUP + Refused.OPEN_RASTER, "\33*t" + n + "R");
            new Tester(300, 64).stream("\33*t150R\33*rA\33*t" + n + "R\33*p0Y\33*rC\33*p0Y\33*b1W\1\33*rC").at(0, 3648)
                    .stream("\33*t" + n + "R\33*p0Y\33*b1W\1\33*rC").at(0, 3600 + 300 / n * 24);
        }
    }

    /** "* r S, * r T: the next raster's WIDTH (HEIGHT), .. is n, none for 0, if n is not above 5119" */
    private static void sidesNotAbove5119() {
        for (String n : new String[] {"5118", "5119"}) {
            // the dot with the number WIDTH is white, the one ahead of it black
            int width = Integer.parseInt(n);
            fresh().stream("\33*r9s" + n + "S\33*b640W" + "\0".repeat(width / 8) + Tester.text(256 >> width % 8) + "\0".repeat(639 - width / 8)).status(5, 640);
            fresh().stream("\33*r9s" + n + "S\33*b640W" + "\0".repeat(width / 8) + Tester.text(128 >> width % 8) + "\0".repeat(639 - width / 8)).status(5, 0);
            fresh().stream("\33*r9t" + n + "T\33*rA\33*b32767Y").status(21, width);
        }
        for (String n : new String[] {"5120", "5121", "8192", "32767", "70000"}) {
            fresh().stream("\33*r9s" + n + "S\33*b3W\0\0\377").status(5, 0).stream("\33*b2W\0\200").status(5, 2);
            fresh().stream("\33*r9t" + n + "T\33*rA\33*b32767Y").status(21, 9);
            Refused.nothing("\33*r" + n + "S");
            Refused.nothing("\33*r" + n + "T");
        }
        fresh().stream("\33*r9s0S\33*b3W\0\0\1").status(5, 3);
        fresh().stream("\33*r9t0T\33*rA\33*b32767Y").status(21, 30000);
        // told for the next one, not for the one that is open; and for those behind it
        fresh().stream("\33*rA\33*r9s2T\33*b3W\0\0\1").status(5, 3).stream("\33*b9Y").status(21, 10).stream("\33*rC\33*rA\33*b9Y").status(21, 2)
                .stream("\33*b3W\0\0\1").status(5, 3).stream("\33*rC\33*rA\33*b9Y").status(21, 2);
    }

    /** "* r A: a raster is OPENED, unless one is, at X = 0 (n 0) or the cursor's X (1; nothing for any other n)" */
    private static void openedUnlessOneIs() {
        for (String n : new String[] {"2", "3", "4", "256", "257", "32767"}) {
            fresh().stream("\33*r" + n + "A").status(20, 0).status(21, -1);
            Refused.nothing("\33*r" + n + "A");
        }
        Refused.nothing(Refused.SETUP + Refused.OPEN_RASTER, "\33*r0A");
        Refused.nothing(Refused.SETUP + Refused.OPEN_RASTER, "\33*r1A");
        for (int n = 0; n < 2; n++) {
            Tester t = fresh().stream("\33*p40x0Y\33*r" + n + "A").status(20, 1).status(21, 0).stream("\33*p80x80Y\33*r" + (1 - n) + "A\33*b1W\200");
            t.conclude();
            t.dots(0, 37, 18, (n == 0 ? "#.........." : "..........#") + ".").dots(0, 57, 18, "............");
        }
    }

    /** "* b M: the METHOD is n, if that is 0 .. 3" */
    private static void methods0To3() {
        String[] rows = {"\33*b2W\1\2", "\33*b2W\1\2", "\33*b2W\0\2", "\33*b2W\1\2"};
        int[] bytes = {2, 2, 1, 2};
        for (int n = 0; n <= 3; n++) {
            fresh().stream("\33*b" + n + "M" + rows[n]).status(5, bytes[n]);
            for (String m : new String[] {"4", "5", "256", "259", "32767"}) {
                fresh().stream("\33*b" + n + "m" + m + "M" + rows[n]).status(5, bytes[n]);
            }
        }
        for (String m : new String[] {"4", "5", "258", "32767"}) {
            Refused.nothing("\33*b" + m + "M");
        }
    }

    /** "* b Y: ROW grows by n, at most to the HEIGHT, or, if there is none, to 30000 (it stays, if it is more), all bytes of the SEED are 0" */
    private static void rowGrowsAtMostTo() {
        for (int height : new int[] {1, 2, 9, 5119}) {
            fresh().stream("\33*r" + height + "T\33*rA\33*b" + (height - 1) + "Y").status(21, height - 1).stream("\33*b1Y").status(21, height).stream("\33*b1Y").status(21, height);
            fresh().stream("\33*r" + height + "T\33*rA\33*b" + (height + 1) + "Y").status(21, height);
        }
        Tester t = fresh().stream("\33*rA\33*b29999Y").status(21, 29999).stream("\33*b1Y").status(21, 30000).stream("\33*b1Y").status(21, 30000);
        t.stream("\33*b1W\0").status(21, 30001).stream("\33*b0Y").status(21, 30001).stream("\33*b5Y").status(21, 30001).stream("\33*b32767Y").status(21, 30001);
        fresh().stream("\33*rA\33*b29999y2Y").status(21, 30000);
        fresh().stream("\33*rA\33*b32767Y").status(21, 30000);
        fresh().stream("\33*rA\33*b5y-3Y").status(21, 5);
        // the seed is white, also if ROW has not grown
        for (String y : new String[] {"0Y", "1Y", "-1Y"}) {
            fresh().stream("\33*b2w\1\2\33*b3m0W").status(4, 2).stream("\33*b" + y + "\33*b0W").status(4, 2);
        }
        fresh().stream("\33*r3T\33*b1w\1" + "1w\1" + "9y\33*b3m0W").status(21, 3).status(4, 2);
    }

    /** "nothing if none is OPEN": of * b Y, and "* r B, * r C, if a raster is OPEN" */
    private static void nothingIfNoneIsOpen() {
        for (String s : new String[] {"\33*b5Y", "\33*b0Y", "\33*b32767Y", "\33*rB", "\33*rC", "\33*r1C"}) {
            Refused.nothing(Refused.SETUP, s);
            fresh().stream(s).status(20, 0).status(21, -1).at(0, 4500);
        }
        fresh().stream("\33*b2M\33*rC\33*b2W\0\1").status(5, 1);
    }

    /** "* b W: a ROW of its DATA; if no raster is OPEN, it is opened as by * r A with 0 first" */
    private static void opensByItself() {
        Tester t = fresh().stream("\33*p40x40Y\33*b1W\200").status(20, 1).status(21, 1).at(960, 4560);
        t.conclude();
        t.dots(0, 47, 17, ".#.");
        fresh().stream("\33*b0W").status(20, 1).status(21, 1).status(4, 0);
        fresh().stream("\33*b-5W").status(20, 1).status(21, 1).status(4, 0);
        fresh().stream("\33*b5W\1\2").status(20, 0).stream("\1\2\3").status(20, 1).status(21, 1);
    }

    /** "If there is a HEIGHT and ROW has it, a row changes nothing." */
    private static void noneBehindTheHeight() {
        fresh().stream("\33*r2T\33*b1w\1" + "1W\1").status(21, 2).status(4, 2).stream("\33*b1W\1").status(21, 2).status(4, 2);
        String full = Refused.SETUP + "\33*r2T\33*r1A\33*b2w\0\17" + "2w\0\360";
        Refused.nothing(full + "W\33*b0M", "\33*b2W\1\2");
        Refused.nothing(full + "W\33*b3M", "\33*b2W\0\2");
        Refused.nothing(Refused.SETUP + "\33*r1t1A\33*b32767Y", "\33*b4W\0\377\0\377");
    }

    /** "* r B, * r C ..: it is so no more: ROW is the HEIGHT, if there is one, the METHOD 0, and Y becomes that of the line behind the last ROW" */
    private static void ended() {
        for (String end : new String[] {"\33*rB", "\33*rC", "\33*r1B", "\33*r9C"}) {
            fresh().stream("\33*p0Y\33*r5T\33*rA\33*b1W\1" + end).status(20, 0).status(21, -1).at(0, 3552 + 5 * 96);
            fresh().stream("\33*p0Y\33*rA\33*b1W\1" + end).at(0, 3552 + 96).stream("\33*rA" + end).at(0, 3648);
            fresh().stream("\33*b2m1W\200" + end + "\33*b2W\1\2").status(5, 2);
            // brought to the page
            fresh().stream("\33*rA\33*b30000Y" + end).at(0, 79200);
            fresh().stream("\33*p9999Y\33*rA" + end).at(0, 79200).stream("\33*b1W\1" + end).at(0, 79200);
            fresh().stream("\33&l26A\33*p9999Y\33*rA" + end).at(0, 84189 / 96 * 96);
        }
        new Tester(300, 64).stream("\33*p0Y\33*r5T\33*rA\33*rC").at(0, 3600 + 5 * 4 * 24);
        new Tester(150, 64).stream("\33*p1Y\33*t100R\33*r5T\33*rA\33*rC").at(0, 3600 + 5 * 48);
    }

    /** "the SCALE DPI / RESOLUTION (what is left over is dropped), but at least 1" */
    private static void scaleAtLeast1() {
        int[][] scales = {{75, 75, 1}, {75, 100, 1}, {75, 150, 1}, {75, 300, 1}, {150, 75, 2}, {150, 100, 1}, {150, 150, 1}, {150, 300, 1}, {300, 75, 4},
            {300, 100, 3}, {300, 150, 2}, {300, 300, 1}};
        for (int[] s : scales) {
            int dot = 7200 / s[0];
            Tester t = new Tester(s[0], 64).stream("\33*t" + s[1] + "R\33*p0Y\33*b1w\240" + "1W\100\33*rC").at(0, 3600 / dot * dot + 2 * s[2] * dot);
            t.conclude();
            String b = "#".repeat(s[2]);
            String w = ".".repeat(s[2]);
            for (int j = 0; j < s[2]; j++) {
                t.dots(0, 3600 / dot + j, 1800 / dot - 1, "." + b + w + b + ".").dots(0, 3600 / dot + s[2] + j, 1800 / dot - 1, "." + w + b + w + ".");
            }
            t.dots(0, 3600 / dot - 1, 1800 / dot - 1, ".....").dots(0, 3600 / dot + 2 * s[2], 1800 / dot - 1, ".....");
        }
    }

    /** "Rows have LENGTH bytes: WIDTH / 8, one more if something is left over; without a WIDTH 640"; "what would come behind them is not there" */
    private static void lengthOfARow() {
        for (int width : new int[] {1, 7, 8, 9, 15, 16, 17, 5111, 5112, 5113, 5119}) {
            int bytes = (width + 7) / 8;
            // the last byte that is there is in the seed: a wider look at it is by the next row
            String row = "\33*r" + width + "S\33*b" + (bytes + 1) + "W" + "\0".repeat(bytes - 1) + "\200\377";
            fresh().stream(row).status(5, bytes).status(4, 1);
            fresh().stream(row + "\33*b3m0W").status(5, 2 * bytes).status(4, 2);
        }
        fresh().stream("\33*b641W" + "\0".repeat(640) + "\377").status(4, 0);
        fresh().stream("\33*b640W" + "\0".repeat(639) + "\1").status(5, 640);
        fresh().stream("\33*b3m642W" + "\77\377\377\142" + "\1\2" + "\200".repeat(636)).status(5, 640);
    }

    /** "Dots of a row from number WIDTH on count as white (but stay in the bytes)" */
    private static void dotsFromTheWidthOn() {
        for (int width = 1; width <= 16; width++) {
            int bytes = (width + 7) / 8;
            for (int dot = 0; dot < 8 * bytes; dot++) {
                int[] row = new int[bytes];
                row[dot / 8] = 128 >> dot % 8;
                fresh().stream("\33*r" + width + "S\33*b" + bytes + "W" + Tester.text(row)).status(4, dot < width ? 1 : 0).status(5, dot < width ? dot / 8 + 1 : 0);
            }
        }
        // a dot beyond the width, and one ahead of it, in one byte; the first is no dot of the mark
        Tester t = fresh().stream("\33*r4S\33*p0x0Y\33*b1W\107");
        t.conclude();
        t.dots(0, 37, 18, ".#......");
    }

    private static void row(int width, String stream, String want) {
        String side = width == 0 ? "" : "\33*r" + width + "S";
        Tester t = fresh().stream("\33&l6A\33*p0x0Y" + side + "\33*r1A" + stream);
        int row = t.x.status(21) - 1;
        t.conclude();
        StringBuilder dots = new StringBuilder();
        for (int i = 0; i < want.length() && i < 90; i++) {
            dots.append(Integer.toBinaryString(256 + want.charAt(i)).substring(1).replace('1', '#').replace('0', '.'));
        }
        t.dots(0, 37 + row, 18, dots + "................");
    }

    /** "0: the bytes as they are"; "those to which nothing came are 0" */
    private static void unpackedAsTheyAre() {
        row(0, "\33*b3W\1\2\3", "\1\2\3");
        row(16, "\33*b3W\1\2\3", "\1\2");
        row(32, "\33*b3w\377\377\377" + "1W\1", "\1");
        row(0, "\33*b3w\377\377\377" + "1w\1" + "0W", "");
    }

    /** "1: in pairs: a byte c, and a byte that comes c + 1 times (an odd one at the end is not there)" */
    private static void unpackedInPairs() {
        row(0, "\33*b1m2W\0\201", "\201");
        row(0, "\33*b1m2W\1\201", "\201\201");
        row(0, "\33*b1m3W\0\201\1", "\201");
        row(0, "\33*b1m1W\0", "");
        row(16, "\33*b1m2W\3\201", "\201\201");
        row(16, "\33*b1m4W\0\1\3\2", "\1\2");
        row(0, "\33*b1m4W\177\0\0\1", "\0".repeat(128) + "\1");
        // the odd one is not there, whatever other data stood behind it before
        row(0, "\33*b4w\377\377\377\377\33*b1m3W\0\201\3", "\201");
        row(0, "\33*b4w\377\377\377\377\33*b1m1W\3", "");
        row(0, "\33*b1m6W\1\201\0\1\2\3", "\201\201\1\3\3\3");
        fresh().stream("\33*b1m4W\377\0\377\1").status(5, 512);
        fresh().stream("\33*b1m6W\377\0\377\0\177\1").status(5, 640);
        fresh().stream("\33*b1m8W\377\0\377\0\177\0\0\1").status(5, 0).status(21, 1);
        fresh().stream("\33*b1m8W\377\0\377\0\176\0\0\1").status(5, 640);
    }

    /** "2: a byte c; for c up to 127 the next c + 1 bytes as they are (as many as there are); for c above 128 the next byte comes 257 - c times (nothing, if there is none); 128 is passed over" */
    private static void unpackedByRuns() {
        row(0, "\33*b2m2W\0\201", "\201");
        row(0, "\33*b2m4W\1\201\202\3", "\201\202");
        row(0, "\33*b2m3W\177\201\202", "\201\202");
        row(0, "\33*b2m130W\177" + "\0".repeat(127) + "\1\0", "\0".repeat(127) + "\1");
        row(0, "\33*b2m131W\177" + "\0".repeat(127) + "\1\0\2", "\0".repeat(127) + "\1\2");
        row(0, "\33*b2m2W\377\201", "\201\201");
        row(0, "\33*b2m2W\376\201", "\201\201\201");
        fresh().stream("\33*b2m2W\201\1").status(5, 128);
        row(0, "\33*b2m1W\201", "");
        // one behind the other, and ended whatever other data stood behind them before
        row(0, "\33*b2m8W\377\1\0\2\376\3\200\0", "\1\1\2\3\3\3");
        row(0, "\33*b2m7W\1\4\5\377\6\0\7", "\4\5\6\6\7");
        row(0, "\33*b6w\377\377\377\377\377\377\33*b2m3W\3\1\2", "\1\2");
        row(0, "\33*b6w\377\377\377\377\377\377\33*b2m3W\0\1\376", "\1");
        row(0, "\33*b6w\377\377\377\377\377\377\33*b2m1W\376", "");
        row(0, "\33*b2m3W\0\1\377", "\1");
        row(0, "\33*b2m3W\200\0\1", "\1");
        row(0, "\33*b2m5W\200\200\200\377\1", "\1\1");
        row(0, "\33*b2m1W\200", "");
        row(16, "\33*b2m4W\2\1\2\3", "\1\2");
        row(16, "\33*b2m2W\375\3", "\3\3");
        row(16, "\33*b2m6W\2\1\2\3\0\4", "\1\2");
    }

    /** "3: it is like the SEED, but for changes ..: a byte c, an offset c % 32; if that is 31, the next byte is added to it, and as long as the byte added last was 255 the next one, too" */
    private static void unpackedByChanges() {
        String seed = "\33*b3w\1\2\3\33*b3m";
        row(0, seed + "0W", "\1\2\3");
        row(0, seed + "1W\0", "\1\2\3");
        row(0, seed + "2W\0\7", "\7\2\3");
        row(0, seed + "2W\2\7", "\1\2\7");
        row(0, seed + "3W\1\7\0", "\1\7\3");
        row(0, seed + "4W\0\7\0\6", "\7\6\3");
        row(0, seed + "3W\40\7\6", "\7\6\3");
        row(0, seed + "2W\340\7", "\7\2\3");
        row(0, seed + "9W\340\1\2\3\4\5\6\7\10", "\1\2\3\4\5\6\7\10");
        row(0, seed + "10W\340\1\2\3\4\5\6\7\10\0", "\1\2\3\4\5\6\7\10");
        row(0, seed + "2W\36\7", "\1\2\3" + "\0".repeat(27) + "\7");
        row(0, seed + "3W\37\0\7", "\1\2\3" + "\0".repeat(28) + "\7");
        row(0, seed + "3W\37\1\7", "\1\2\3" + "\0".repeat(29) + "\7");
        fresh().stream("\33*b3m3W\37\376\7").status(5, 31 + 254 + 1);
        fresh().stream("\33*b3m4W\37\377\0\7").status(5, 31 + 255 + 1);
        fresh().stream("\33*b3m4W\37\377\1\7").status(5, 31 + 256 + 1);
        fresh().stream("\33*b3m5W\37\377\377\0\7").status(5, 31 + 510 + 1);
        fresh().stream("\33*b3m5W\37\377\377\141\7").status(5, 31 + 510 + 97 + 1);
        fresh().stream("\33*b3m5W\37\377\377\142\7").status(5, 640);
        fresh().stream("\33*b3m5W\37\377\377\143\7").status(5, 0);
        // c / 32 + 1 bytes, and then the next change
        for (int more = 0; more < 8; more++) {
            for (int offset : new int[] {0, 1, 15, 16, 30}) {
                StringBuilder data = new StringBuilder(Tester.text(32 * more + offset));
                StringBuilder want = new StringBuilder("\0".repeat(offset));
                for (int i = 0; i <= more; i++) {
                    data.append(Tester.text(40 + i));
                    want.append(Tester.text(40 + i));
                }
                row(0, "\33*b3m" + (data.length() + 4) + "W" + data + "\1\201\0\202", want + "\0\201\202");
                row(0, "\33*b40w" + "\0".repeat(39) + "\1\33*b0m40w" + "\0".repeat(40) + "3m" + (data.length() - 1) + "W" + data.substring(0, data.length() - 1),
                        want.substring(0, want.length() - 1));
            }
        }
        // it ends within an offset: nothing comes behind that
        row(0, seed + "1W\37", "\1\2\3");
        row(0, seed + "2W\37\377", "\1\2\3");
        row(0, seed + "3W\37\377\377", "\1\2\3");
        row(0, seed + "4W\0\7\37\377", "\7\2\3");
        row(16, "\33*b2w\1\2\33*b3m4W\140\4\5\6", "\4\5");
    }

    /** "(only the first 4096 of them count)": rows of as many bytes, and of more, whatever they say at their end */
    private static void rowsOf4096Bytes() {
        String[] ways = {"\0\125", "\37\377", "\377\377", "\177\1\2\3", "\200", "\340\1", "\2\377\0", "\5\0\0\0\0\0\0\37"};
        for (int method = 0; method <= 3; method++) {
            for (int n = 4094; n <= 4098; n++) {
                for (String way : ways) {
                    String data = way.repeat(n / way.length() + 1).substring(0, n);
                    Tester t = fresh().stream("\33&l6a1O\33*b" + method + "m3W\1\2\3\33*b" + n + "W" + data).status(21, 2);
                    t.conclude();
                }
            }
        }
    }

    /** "A raster has, when it is opened, .. its ROW number 0, and a SEED, a row of bytes that are 0" */
    private static void theSeedAtFirst() {
        fresh().stream("\33*b3W\1\2\3\33*rC\33*rA").status(21, 0).stream("\33*b3m0W").status(4, 1).status(21, 1);
        fresh().stream("\33*b3W\1\2\3\33*rC\33*b3m2W\1\1").status(4, 2).status(5, 5);
        Tester t = fresh().stream("\33*b3W\1\2\3");
        t.conclude();
        t.stream("\33*b3m0W").status(4, 0).status(21, 1);
        // the METHOD may be told ahead of the raster
        fresh().stream("\33*b1M\33*rA\33*b2W\1\201").status(5, 2);
    }

    /** "it is a mark .., its dots up to the last black one .. (none, if no dot is black); and ROW grows by 1" */
    private static void upToTheLastBlackDot() {
        for (int dot = 0; dot < 24; dot++) {
            int[] row = new int[3];
            row[dot / 8] = 128 >> dot % 8;
            Tester t = fresh().stream("\33*v1N\33*p0x0Y\33*c160a8b0P\33*r1A\33*b3W" + Tester.text(row)).status(5, dot / 8 + 1).status(21, 1);
            t.conclude();
            // an opaque source whitens up to its last dot, and no further
            t.dots(0, 37, 18, ".".repeat(dot) + "#".repeat(40 - dot) + ".");
        }
        fresh().stream("\33*b3W\0\0\0").status(4, 0).status(5, 0).status(21, 1).stream("\33*b0W").status(21, 2).status(4, 0);
    }

    /** "The place X, Y of the page is the dot i = (X + 1800) * DPI / 7200 (1440 in ORIENTATIONS 1 and 3), j = Y * DPI / 7200" */
    private static void whatIsLeftOverIsDropped() {
        for (int dpi : new int[] {75, 150, 300}) {
            int dot = 7200 / dpi;
            int wide = 61200 / dot;
            int high = 79200 / dot;
            for (int o = 0; o < 4; o++) {
                int margin = o % 2 == 0 ? 1800 : 1440;
                // to the dot's last unit, and to the next one's first
                for (int units : new int[] {0, dot - margin % dot - 1, dot - margin % dot, 2 * dot - margin % dot - 1, 2 * dot - margin % dot}) {
                    for (int down : new int[] {0, dot - 1, dot, 2 * dot - 1}) {
                        int i = (units + margin) / dot;
                        int j = down / dot;
                        String at = "\33&l" + o + "o0E\33&a" + units / 10 + "." + units % 10 + "h" + down / 10 + "." + down % 10 + "V";
                        Tester t = new Tester(dpi, 64).stream(at + "\33*c.1h.1v0P").at(units, down);
                        t.conclude();
                        int x = o == 0 ? i : o == 1 ? j : o == 2 ? wide - 1 - i : wide - 1 - j;
                        int y = o == 0 ? j : o == 1 ? high - 1 - i : o == 2 ? high - 1 - j : i;
                        Tester.due("the dot " + x + ", " + y, t.x.printed(0, y, x / 64), Long.MIN_VALUE >>> x % 64);
                    }
                }
            }
        }
    }

    /** Marks at all places beside each other, on white and on black, have their dots and no others */
    private static void wherever() {
        String font = Tester.plainFont(1, 1) + Tester.glyph(1, 65, 0, 0, 3, 1, 0, 0xA0);
        String[] marks = {"\33*c288h96v0P", "A", "\33*r1A\33*b1W\240\33*rC"};
        String[] dots = {"###", "#.#", "#.#"};
        for (int x = 57; x <= 133; x++) {
            for (int m = 0; m < 3; m++) {
                int units = x * 96 - 1800;
                String at = "\33&a" + units / 10 + "." + units % 10 + "H\33*p0Y";
                Tester t = fresh().stream(font + at + marks[m].replace("288h96v", "28.8h9.6v"));
                t.conclude();
                t.dots(0, 37, 18, ".".repeat(x - 18) + dots[m] + ".".repeat(200 - x - 3));
                // on black: as it is; whitened by an opaque source; and by an opaque white ink
                String field = font + "\33*p0x0Y\33*c9999a4b0P" + at;
                for (int way = 0; way < 4; way++) {
                    String[] ways = {"", "\33*v1N", "\33*v1t1O", "\33*v1T"};
                    t = fresh().stream(field + ways[way] + marks[m].replace("288h96v0P", "28.8h9.6v5P"));
                    t.conclude();
                    String want = way == 0 || way == 3 ? "###" : way == 1 ? dots[m] : dots[m].replace('#', '+').replace('.', '#').replace('+', '.');
                    t.dots(0, 37, 18, "#".repeat(x - 18) + want + "#".repeat(200 - x - 3));
                }
            }
        }
    }

    /** "Dots that would lie off the sheet are none (a mark takes its room all the same)." */
    private static void offTheSheet() {
        String font = Tester.plainFont(1, 1) + Tester.glyph(1, 65, -20, 40, 8, 8, 0, 255, 255, 255, 255, 255, 255, 255, 255)
                + Tester.glyph(1, 66, 16383, 16383, 8, 1, 0, 255) + Tester.glyph(1, 67, -16384, -16384, 8, 1, 0, 255);
        for (int o = 0; o < 4; o++) {
            Tester t = fresh().stream(font + "\33&l" + o + "O\33*p0x0YABC").status(4, 3).status(5, 10).status(6, 0);
            t.stream("\33*p9999x9999Y\33*c999a999b0P\33*r1A\33*b1W\377\33*b30000y1W\377").status(4, 6).status(5, 12);
            t.conclude();
            t.status(23, 1);
        }
        // the last dots of the sheet on each side
        Tester t = fresh().stream("\33*p9999x9999Y\33*c999a999b0P");
        t.conclude();
        t.dots(0, 824, 617, "....................").dots(0, 824, 630, ".......");
        t = fresh().stream("\33*p9999x3146Y\33*c9999a9999b0P").at(57600, 79104);
        t.conclude();
        t.dots(0, 824, 616, "..###################.");
        t = fresh().stream(Tester.plainFont(1, 1) + Tester.glyph(1, 65, 18, 37, 3, 3, 0, 224, 160, 224) + "\33&l2O\33*p0x0YA");
        t.conclude();
        t.dots(0, 824, 636 - 36 - 3, ".###.").dots(0, 823, 636 - 36 - 3, ".#.#.").dots(0, 822, 636 - 36 - 3, ".###.");
    }

    /** Lines across the sheet, from the place 0, 0 to its edges, whatever its size and turn */
    private static void toTheEdges() {
        for (int dpi : new int[] {75, 150, 300}) {
            // the plain printer takes long for a sheet of so many dots: so of these the widest one, and one whose sides are odd
            for (int size : dpi == 300 ? new int[] {6, 26} : new int[] {1, 2, 3, 6, 26}) {
                for (int orientation = 0; orientation < 4; orientation++) {
                    Tester t = new Tester(dpi, 100).stream("\33&l" + size + "a" + orientation + "O\33*p0x0Y\33*c32767a32767b1g3P");
                    Tester.due("conclude", t.conclude(), 0);
                }
            }
        }
    }

    /** "A sheet has room for 4096 marks"; "A mark for which there is no room is not laid, and the sheet is OVERRUN." */
    private static void roomFor4096Marks() {
        String font = Tester.plainFont(1, 1) + Tester.glyph(1, 65, 0, 0, 8, 1, 0, 255) + "\33*r1A";
        for (String more : new String[] {"\33*c0P", "A", "\33*b1W\1"}) {
            Tester t = fresh().stream(font + Tester.rules(4095)).status(4, 4095).status(6, 0).stream(more).status(4, 4096).status(6, 0);
            int bytes = t.x.status(5);
            t.stream(more).status(4, 4096).status(6, 1).status(5, bytes);
        }
        // it is not laid: a rule of all the sheet
        Tester t = fresh().stream(Tester.rules(4096) + "\33*p0x0Y\33*c9999a9999b0P").status(6, 1);
        t.conclude();
        t.dots(0, 100, 0, ".".repeat(64));
        t = fresh().stream(Tester.rules(4095) + "\33*p0x0Y\33*c9999a9999b0P").status(6, 0);
        t.conclude();
        t.dots(0, 100, 18, "#".repeat(40));
        // a row without room is the seed all the same, and ROW has grown
        fresh().stream(Tester.rules(4096) + "\33*b1W\1").status(6, 1).status(21, 1).stream("\f\33*b3m0W").status(4, 1).status(21, 2);
        // a character without room has its step
        fresh().stream(font + "\33*c65e\33(s10W\0\0\0\0\0\10\0\1\0\11" + Tester.rules(4096) + "A").at(9, 4500).status(6, 1);
    }

    /** "and 65536 bytes of dots: DEPTH * ((WIDTH + 7) / 8) for each GLYPH .., and (m + 7) / 8 for a ROW of m dots" */
    private static void roomFor65536Bytes() {
        String font = Tester.plainFont(1, 1) + Tester.glyph(1, 65, 0, 0, 128, 128, 0) + Tester.glyph(1, 66, 0, 0, 128, 127, 0) + Tester.glyph(1, 67, 0, 0, 9, 8, 0)
                + Tester.glyph(1, 68, 0, 0, 8, 1, 0) + "\33*r1A";
        fresh().stream(font + "A".repeat(32)).status(5, 65536).status(4, 32).status(6, 0).stream("D").status(5, 65536).status(4, 32).status(6, 1);
        fresh().stream(font + "A".repeat(32)).stream("\33*b1W\200").status(5, 65536).status(6, 1).status(21, 1);
        fresh().stream(font + "A".repeat(32)).stream("\33*c1a1b0P").status(5, 65536).status(4, 33).status(6, 0);
        // 16 bytes are left: one glyph of 16, or a row of 128 dots, and no more
        String left16 = font + "A".repeat(31) + "B";
        fresh().stream(left16).status(5, 65520).stream("C").status(5, 65536).status(6, 0).stream("D").status(6, 1);
        fresh().stream(left16 + "\33*b16W" + "\0".repeat(15) + "\1").status(5, 65536).status(6, 0);
        fresh().stream(left16 + "\33*b17W" + "\0".repeat(16) + "\200").status(5, 65520).status(6, 1);
        // what is smaller still finds room
        fresh().stream(left16 + "A").status(5, 65520).status(6, 1).stream("D").status(5, 65521).status(4, 33).stream("C").status(5, 65521);
        // the room is there again on the next sheet
        fresh().stream(left16 + "A\f" + "A".repeat(32)).status(5, 65536).status(6, 0);
        // whatever the SCALE: a row of one dot has one byte
        new Tester(300, 16).stream("\33*b1W\200").status(5, 1);
    }

    /** "(one of WIDTH or DEPTH 0 is no mark; one whose dots are all white is)" */
    private static void noMarkWithoutDots() {
        String font = Tester.plainFont(1, 1) + Tester.glyph(1, 65, 0, 0, 0, 9, 5) + Tester.glyph(1, 66, 0, 0, 9, 0, 5) + Tester.glyph(1, 67, 0, 0, 0, 0, 5)
                + Tester.glyph(1, 68, 0, 0, 1, 1, 5);
        fresh().stream(font + "ABC").status(4, 0).status(5, 0).at(15, 4500).stream("D").status(4, 1).status(5, 1).stream("\33E").status(2, 1);
        // they need no room, either
        fresh().stream(font + Tester.rules(4096) + "ABC").status(4, 4096).status(6, 0).stream("D").status(6, 1);
    }

    /** "25: sheets that were OVERRUN when they were to be PRINTED, in this job (each once, whatever its COPIES, also if the job FAILED with it)" */
    private static void overrunSheets() {
        String over = Tester.rules(4096) + "\33*c0P";
        Tester t = fresh().stream(over).status(25, 0).status(6, 1).stream("\f").status(25, 1).status(6, 0).stream(Tester.rules(4096) + "\f").status(25, 1);
        t.stream(over + "\33&l5X\f").status(25, 2).status(2, 7).stream(over + "\33E").status(25, 3);
        t.conclude();
        t.status(25, 0);
        t.stream("\f".repeat(40) + over).status(25, 0).stream("\f").status(3, 20).status(25, 1);
        t.conclude();
        t.status(25, 0);
        t.stream("\f".repeat(38) + "\33&l5X" + over + "\f").status(3, 20).status(2, 40).status(25, 1);
    }

    /** "If there would be more than 40 pages .. the job FAILS: 20; that page (or copy) is not there." */
    private static void atMost40Pages() {
        fresh().stream("\f".repeat(39)).status(2, 39).status(3, 0).stream("\f").status(2, 40).status(3, 0).stream("\f").status(2, 40).status(3, 20);
        for (int copies = 1; copies <= 4; copies++) {
            Tester t = fresh().stream("\f".repeat(38) + "\33&l" + copies + "X\f").status(2, Math.min(40, 38 + copies)).status(3, copies > 2 ? 20 : 0);
            Tester.due("conclude", t.conclude(), copies > 2 ? 20 : 0);
            t.status(23, Math.min(40, 38 + copies));
        }
    }

    /** "When it FAILS at an EJECT, the byte that ejected has set the state .., the sheet is white, but nothing more comes of the byte." */
    private static void failedAtAnEject() {
        String full = "\f".repeat(40);
        fresh().stream(full + "\33&s0C\33&a5L\33&a80C\33*p9999YAB").status(3, 20).at(3600 + 720, 4500).status(4, 0).status(5, 0).status(6, 0);
        fresh().stream(full + "\33*p9999YAA\n\n").status(3, 20).at(1440, 4500);
        fresh().stream(full + "\33&k2GAA\f").status(3, 20).at(0, 4500);
        fresh().stream(full + "\33&k3G\33*p9999YAA\rA").status(3, 20).at(0, 4500);
        fresh().stream(full + "\33*p9999YAA\33=A").status(3, 20).at(1440, 4500);
        fresh().stream(full + "A\33&l6a1OA").status(3, 20).status(9, 6).status(10, 0).at(0, 4500);
        fresh().stream(full + "A\33&l3o6A").status(3, 20).status(9, 2).status(10, 3).at(0, 4500);
        fresh().stream(full + "\33&l6A\16\33&k5h\33&l8DA\33EA").status(3, 20).status(9, 2).status(11, 0).at(0, 4500);
        // X is brought to the page then, too
        fresh().stream(full + "\33&s0C\33&k1200H\33*p9999YA").status(3, 20).at(57600, 4500);
        fresh().stream(full + "\33&s0C\33&k800H\33&a1L\33*p9999YA").status(3, 20).at(57600, 4500);
        // marks: a glyph that wrapped is not on the sheet, nor is what was there
        fresh().stream(Tester.plainFont(1, 1) + Tester.glyph(1, 65, 0, 0, 8, 8, 500) + full + "\33*c9a9b0P\33&s0C\33&a80C\33*p9999YA").status(3, 20).at(500, 4500).status(4, 0).status(5, 0);
        // X's of a sequence that ends there say nothing more
        fresh().stream("\33&f1y0XA\f\33&f1X" + full + "\33&f2x6X").status(3, 20).status(16, 1).at(720, 4500);
    }

    /** "At first, and behind the end of a job, the INK is black, .. the METHOD 0, and the WISHES are as said below, without PINS." */
    private static void behindTheEndOfAJob() {
        String field = "\33*p0x0Y\33*c80a80b0P";
        String[] probes = {"\33*c9b0P", "\33*c9a0P", "\33*c9a9b2p3P", field + "\33*v1T\33*c5P", field + "\33*r1A\33*b1W\240", "\33*c9a9b5P\33*p0x0Y\33*b1W\240", "\33*cP\33*c1a1b2p3P", "\33*b2W\1\2\33*rC", "\33*rA\33*b32767Y", "\33*b7W\1\2\3\4\5\6\7", "\33)s14W" + Tester.plainFont(7, 0).substring(11),
            "\33&f0XAA\33&f1X\33&f0y2X", Tester.font(1, 277, 0, 1000, 1200, 0, 0, 3) + Tester.font(2, 309, 0, 850, 900, 2, -2, 7), "A\n\t\16A"};
        for (String probe : probes) {
            Tester first = fresh().stream(probe);
            Tester later = fresh().stream(Refused.SETUP + Refused.OPEN_RASTER + "\33*c2d4F\33&f9X");
            later.conclude();
            later.stream(probe);
            for (int which = 0; which < 24; which++) {
                if (which != 22 && which != 23) {
                    later.status(which, first.x.status(which));
                }
            }
            first.conclude();
            later.conclude();
            long[] want = new long[first.x.status(22) / 8 + 1];
            long[] got = new long[later.x.status(22) / 8 + 1];
            for (int k = 0; k < want.length; k++) {
                want[k] = first.x.bytesAt(k);
            }
            for (int k = 0; k < got.length; k++) {
                got[k] = later.x.bytesAt(k);
            }
            Tester.due("the file behind the end of a job", Arrays.equals(got, want) ? 1 : 0, 1);
        }
    }
}
