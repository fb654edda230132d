/** Terms: fonts and how one is chosen, rules and inks, rasters, and marks on the sheet. */
public final class MarksTest {
    public static void main(String[] args) {
        fontHeads();
        glyphHeads();
        shelfRoom();
        fontManagement();
        choosing();
        wishesAndPins();
        glyphSteps();
        glyphDots();
        turns();
        rules();
        inks();
        opaqueInks();
        shades();
        rasters();
        rasterPlaces();
        unpacking();
        overrun();
        Tester.end();
    }

    private static Tester fresh() {
        return new Tester(75, 16);
    }

    private static void fontHeads() {
        int[] good = {277, 0, 1000, 1200, 0, 0, 3};
        int[][] edges = {{0, 2047}, {0, 1}, {1, 57600}, {1, 99999}, {0, 32767}, {-7, 7}, {0, 65535}};
        int[][] wrong = {{2048, 65535}, {2, 255}, {0, 57601}, {0, 100000}, {32768, 65535}, {-8, 8}, {}};
        for (int a = 0; a < 7; a++) {
            for (int v : edges[a]) {
                int[] f = good.clone();
                f[a] = v;
                fresh().stream(Tester.font(5, f)).status(12, 1).status(14, 5);
            }
            for (int v : wrong[a]) {
                int[] f = good.clone();
                f[a] = v;
                fresh().stream(Tester.font(5, f)).status(12, 0).status(14, -1);
            }
        }
        String head = Tester.plainFont(7, 0).substring("\33*c7D\33)s14W".length());
        fresh().stream("\33)s14W" + head).status(12, 1).status(14, 0);
        fresh().stream("\33)s13W" + head.substring(0, 13)).status(12, 0);
        fresh().stream("\33)s16W" + head + "\33E").status(12, 1).at(0, 4500);
        fresh().stream("\33)s14W" + head.substring(0, 5) + "\1" + head.substring(6)).status(12, 0);
    }

    private static void glyphHeads() {
        String font = Tester.plainFont(5, 1);
        int[][] good = {{-16384, 16383, 0, 128, 32767}, {16383, -16384, 128, 0, 0}, {0, 0, 128, 128, 1}};
        for (int[] g : good) {
            fresh().stream(font + Tester.glyph(5, 65, g[0], g[1], g[2], g[3], g[4])).status(13, 1);
        }
        int[][] wrong = {{-16385, 0, 1, 1, 1}, {16384, 0, 1, 1, 1}, {0, -16385, 1, 1, 1}, {0, 16384, 1, 1, 1}, {0, 0, 129, 1, 1},
            {0, 0, 1, 129, 1}, {0, 0, 65535, 1, 1}, {0, 0, 1, 32768, 1}, {0, 0, 1, 1, 32768}, {0, 0, 1, 1, 65535}};
        for (int[] g : wrong) {
            fresh().stream(font + Tester.glyph(5, 65, g[0], g[1], g[2], g[3], g[4])).status(13, 0);
        }
        fresh().stream(font + Tester.glyph(6, 65, 0, 0, 1, 1, 1)).status(13, 0);
        fresh().stream(font + "\33(s9W\0\0\0\0\0\0\0\0\0").status(13, 0);
        fresh().stream(font + "\33(s10W\0\0\0\0\0\0\0\0\0\0").status(13, 1);
        fresh().stream(font + "\33*c255E\33(s10W\0\0\0\0\0\0\0\0\0\0\33*c256E\33(s10W\0\0\0\0\0\0\0\0\0\1").status(13, 1);
        fresh().stream(font + Tester.glyph(5, 65, 0, 0, 9, 9, 9) + Tester.glyph(5, 65, 0, 0, 129, 9, 9) + "A").status(5, 18);
    }

    private static void shelfRoom() {
        Tester t = fresh();
        StringBuilder s = new StringBuilder();
        for (int id = 0; id < 33; id++) {
            s.append(Tester.plainFont(100 + id, 0));
        }
        t.stream(s.toString()).status(12, 32).status(14, 131);
        t.stream(Tester.plainFont(103, 0)).status(12, 32).status(14, 103);
        s.setLength(0);
        for (int code = 0; code < 256; code++) {
            s.append(Tester.glyph(100 + code % 3, code, 0, 0, 0, 0, 0));
        }
        t.stream(s.toString()).status(13, 256).stream(Tester.glyph(104, 1, 0, 0, 0, 0, 0)).status(13, 256);
        t.stream(Tester.glyph(100, 0, 0, 0, 8, 8, 0)).status(13, 256).stream("\33*c100d0e3F").status(13, 255);
        t.stream(Tester.glyph(104, 1, 0, 0, 0, 0, 0)).status(13, 256);
        // eight glyphs of 128 by 128 have 16384 bytes
        Tester u = fresh();
        s = new StringBuilder(Tester.plainFont(1, 1));
        for (int code = 65; code < 73; code++) {
            s.append(Tester.glyph(1, code, 0, 0, 128, 128, 100));
        }
        u.stream(s.toString()).status(13, 8).stream(Tester.glyph(1, 80, 0, 0, 1, 1, 0)).status(13, 8);
        u.stream(Tester.glyph(1, 80, 0, 0, 0, 9, 0)).status(13, 9);
        u.stream(Tester.glyph(1, 72, 0, 0, 128, 127, 0)).status(13, 9).stream(Tester.glyph(1, 81, 0, 0, 121, 1, 0)).status(13, 10);
        u.stream(Tester.glyph(1, 72, 0, 0, 128, 128, 0)).status(13, 10).stream("H").status(5, 127 * 16);
        u.stream(Tester.plainFont(1, 1)).status(13, 0).stream(s.toString()).status(13, 8);
    }

    private static void fontManagement() {
        String three = Tester.plainFont(1, 1) + Tester.glyph(1, 65, 0, 0, 8, 1, 9, 255) + Tester.plainFont(2, 1)
                + Tester.glyph(2, 65, 0, 0, 8, 1, 9, 255) + Tester.glyph(2, 66, 0, 0, 8, 2, 9, 255, 1) + "\33*c5F" + Tester.plainFont(3, 1);
        fresh().stream(three).status(12, 3).status(13, 3).status(14, 3).stream("\33*cF").status(12, 0).status(13, 0).status(14, -1);
        fresh().stream(three + "\33*c1F").status(12, 1).status(13, 2).status(14, 2);
        fresh().stream(three + "\33*c2F").status(12, 2).status(14, 1).status(13, 3);
        fresh().stream(three + "\33*c2d2F").status(12, 2).status(14, 3).status(13, 1);
        fresh().stream(three + "\33*c9d2F").status(12, 3);
        fresh().stream(three + "\33*c2d66e3F").status(13, 2).stream("\33*c3F").status(13, 2).stream("\33*c65e3F").status(13, 1);
        fresh().stream(three + "\33*c2d4f1F").status(12, 0);
        fresh().stream(three + "\33*c6f7f-1F").status(12, 0);
        fresh().stream(three + "\33*c6f7f5f3d5f1F").status(12, 2).status(14, 3);
        // dots stay with their glyphs when others go
        Tester t = fresh().stream(three + "\33*c1d2f3d2F\33(2X\33&a9M\33&k0H" + "\33*p0x0YB");
        t.conclude();
        t.dots(0, 37, 18, "########.").dots(0, 38, 18, ".......#.");
    }

    private static void choosing() {
        // SET, then 277, then all
        chosen("\33(8V", 2, new int[] {277, 0, 1000, 1200, 0, 0, 3}, new int[] {278, 1, 5, 5, 9, 7, 9});
        chosen("\33(9V", 1, new int[] {277, 0, 1000, 1200, 0, 0, 3}, new int[] {278, 0, 1000, 1200, 0, 0, 3});
        chosen("\33(9V", 2, new int[] {276, 0, 1000, 1200, 0, 0, 3}, new int[] {278, 0, 1000, 1200, 0, 0, 3});
        // SPACING
        chosen("\33(s1P", 1, new int[] {277, 1, 1000, 5, 0, 0, 3}, new int[] {277, 0, 1000, 1200, 0, 0, 3});
        chosen("\33(s1P", 2, new int[] {277, 0, 1000, 5, 0, 0, 3}, new int[] {277, 0, 1000, 1200, 0, 0, 3});
        // PITCH: the least that is not below, else the greatest; only for even spacing
        chosen("\33(s10H", 2, new int[] {277, 0, 1200, 1200, 0, 0, 3}, new int[] {277, 0, 1100, 5, 0, 0, 3}, new int[] {277, 0, 999, 1200, 0, 0, 3});
        chosen("\33(s12.01H", 1, new int[] {277, 0, 1200, 5, 0, 0, 3}, new int[] {277, 0, 1100, 1200, 0, 0, 3});
        chosen("\33(s12.001H", 1, new int[] {277, 0, 1200, 5, 0, 0, 3}, new int[] {277, 0, 1201, 1200, 0, 0, 3});
        chosen("\33(s1P", 2, new int[] {277, 1, 1000, 5, 0, 0, 3}, new int[] {277, 1, 5, 1200, 0, 0, 3});
        chosen("\33(s0P", 2, new int[] {277, 1, 1000, 5, 0, 0, 3}, new int[] {277, 1, 5, 1200, 0, 0, 3});
        // HEIGHT: the nearest, of two as near the greater
        chosen("\33(s10V", 2, new int[] {277, 0, 1000, 900, 0, 0, 3}, new int[] {277, 0, 1000, 1100, 0, 0, 3}, new int[] {277, 0, 1000, 899, 0, 0, 3});
        chosen("\33(s10V", 1, new int[] {277, 0, 1000, 901, 0, 0, 3}, new int[] {277, 0, 1000, 1100, 0, 0, 3});
        chosen("\33(s10V", 2, new int[] {277, 0, 1000, 1300, 0, 0, 3}, new int[] {277, 0, 1000, 1100, 0, 0, 3});
        chosen("\33(s10V", 1, new int[] {277, 0, 1000, 500, 0, 0, 3}, new int[] {277, 0, 1000, 400, 0, 0, 3});
        // STYLE
        chosen("\33(s5S", 1, new int[] {277, 0, 1000, 1200, 5, 7, 9}, new int[] {277, 0, 1000, 1200, 4, 0, 3});
        chosen("\33(s5S", 2, new int[] {277, 0, 1000, 1200, 0, 7, 9}, new int[] {277, 0, 1000, 1200, 4, 0, 3});
        // WEIGHT
        weight(2, 1, 2, 3);
        weight(2, 2, -7, 3, 4);
        weight(2, 1, 1, 0);
        weight(2, 2, -3, -2);
        weight(0, 2, -1, 1, -1);
        weight(0, 1, -1, -2, -3);
        weight(-2, 2, 0, -3, -4);
        weight(-2, 1, -1, 0, 5);
        weight(-2, 3, 7, 0, -1);
        weight(-7, 1, -6, 7);
        weight(7, 1, 6, -7);
        // FACE
        chosen("\33(s9T", 1, new int[] {277, 0, 1000, 1200, 0, 0, 9}, new int[] {277, 0, 1000, 1200, 0, 0, 3});
        chosen("\33(s8T", 2, new int[] {277, 0, 1000, 1200, 0, 0, 9}, new int[] {277, 0, 1000, 1200, 0, 0, 3});
        // those that are not permanent, then the last
        int[] f = {277, 0, 1000, 1200, 0, 0, 3};
        chosen("\33*c2d5f3d5F", 1, f, f, f);
        chosen("\33*c3d5F", 2, f, f, f);
        chosen("\33*c1d5f2d5f3d5F", 3, f, f, f);
        chosen("", 3, f, f, f);
        chosen(Tester.font(1, f), 1, f, f, f);
    }

    private static void weight(int wish, int want, int... weights) {
        int[][] fonts = new int[weights.length][];
        for (int i = 0; i < weights.length; i++) {
            fonts[i] = new int[] {277, 0, 1000, 1200, 0, weights[i], 3};
        }
        chosen("\33(s" + wish + "B", want, fonts);
    }

    private static void chosen(String wish, int want, int[]... fonts) {
        StringBuilder s = new StringBuilder();
        for (int i = 0; i < fonts.length; i++) {
            s.append(Tester.font(i + 1, fonts[i]));
        }
        Tester t = fresh().stream(s + wish);
        t.status(14, want);
        t = fresh().stream(s + wish.replace('(', ')'));
        t.status(15, want);
    }

    private static void wishesAndPins() {
        String two = Tester.font(1, 277, 1, 1000, 1200, 0, 0, 3) + Tester.font(2, 100, 1, 900, 700, 2, -3, 65535);
        fresh().stream(two).status(14, 1).stream("\33(2X").status(14, 2).status(15, 1).stream("\33)2X").status(15, 2);
        fresh().stream(two + "\33(2x1X").status(14, 1).stream("\33(3X").status(14, 1).stream("\33(X").status(14, 1);
        // what can not be does not end the pin, what can does
        String[] wrong = {"\33(s2P", "\33(s0H", "\33(s576.01H", "\33(s-5H", "\33(s0V", "\33(s1000V", "\33(s8B", "\33(s-8B", "\33(64A",
            "\33(63W", "\33(0@", "\33(0Y", "\33(sX", "\33(sU", "\33)s1P", "\33)8U", "\33*s1P", "\33(s1Q", "\33&s1P"};
        for (String w : wrong) {
            fresh().stream(two + "\33(s8U\33(2X" + w.replace("63W", "2W!!")).status(14, 2).stream("\33*c2d2F\33*c1d2F").status(14, -1);
            fresh().stream(two + Tester.font(3, 100, 1, 900, 700, 2, -3, 65535) + "\33(2X" + w.replace("63W", "2W!!")).status(14, 2);
        }
        String[] good = {"\33(s1P", "\33(s0P", "\33(s.01H", "\33(s576H", "\33(s.01V", "\33(s999.99V", "\33(s32767S", "\33(s-7B", "\33(s7b", "\33(s32767T",
            "\33(3D", "\33(63V", "\33(s-1P", "\33(0A"};
        for (String g : good) {
            fresh().stream(two + Tester.font(3, 100, 1, 900, 700, 2, -3, 65535) + "\33(2X" + g).status(14, g.contains("P") || g.equals("\33(3D")
                    ? 3 : fresh().stream(two + Tester.font(3, 100, 1, 900, 700, 2, -3, 65535) + "\33(3X" + g).x.status(14));
        }
        // the pin leaves its attributes behind, and goes on with a font that comes later
        fresh().stream(two + Tester.font(3, 100, 1, 900, 700, 2, -3, 65535) + "\33(3X\33*c3d2F").status(14, 2)
                .stream(Tester.font(3, 5, 0, 1, 1, 1, 1, 1)).status(14, 3).stream("\33(8U").status(14, 1);
        fresh().stream("\33(5X" + two).status(14, 1);
    }

    private static void glyphSteps() {
        String wide = Tester.plainFont(1, 1) + Tester.glyph(1, 65, 0, 0, 1, 1, 1000) + Tester.glyph(1, 66, 0, 0, 1, 1, 32767)
                + Tester.glyph(1, 32, 0, 0, 1, 1, 50) + Tester.glyph(1, 67, 0, 0, 1, 1, 0);
        fresh().stream(wide + "A").at(1000, 4500).stream("B").at(21000, 4500).stream(" ").at(21050, 4500).stream("C").at(21050, 4500)
                .stream("D").at(21770, 4500).status(4, 3).stream("\33E").status(2, 1);
        fresh().stream(wide + " ").at(50, 4500).status(4, 0).stream("\33E").status(2, 0);
        fresh().stream(wide.replace(Tester.plainFont(1, 1), Tester.plainFont(1, 0)) + "AB").at(1440, 4500).status(4, 2);
        fresh().stream(wide + "\33)2U" + Tester.font(2, 85, 0, 1, 1, 0, 0, 3) + "\33)2U\16A").at(720, 4500).status(4, 0).stream("\17A").at(1720, 4500).status(4, 1);
        fresh().stream(wide + "\33&a56000hA\33*p2401XC").at(57600, 4500);
        fresh().stream(wide + "\33&a5650h+10HA").at(57600, 4500).stream("A").at(57600, 4500).stream("C").at(57600, 4500).status(4, 1);
    }

    private static void glyphDots() {
        String font = Tester.plainFont(1, 1);
        // dot 18, line 37 is the place 0, 3600
        Tester t = fresh().stream(font + Tester.glyph(1, 65, 0, 0, 3, 2, 96 * 8, 0xFF, 0xBF) + Tester.glyph(1, 66, -1, 2, 9, 2, 96 * 16, 0x80, 0xFF, 1)
                + "\33*p0x0YAAB");
        t.status(5, 2 + 2 + 4).conclude();
        t.dots(0, 37, 16, "..###.....###.......").dots(0, 38, 16, "..#.#.....#.#.......");
        t.dots(0, 35, 16, "................." + "#.......#.......").dots(0, 36, 16, "................." + ".......#........");
        // a glyph that the sheet's edges cut, and one beside it
        t = fresh().stream(font + Tester.glyph(1, 65, -20, 40, 8, 8, 0, 255, 255, 255, 255, 255, 255, 255, 255)
                + Tester.glyph(1, 66, -30, 0, 8, 1, 0, 255) + "\33*p0x0YAB").status(4, 2).status(5, 9);
        t.conclude();
        t.dots(0, 0, 0, "######..").dots(0, 4, 0, "######..").dots(0, 5, 0, "........").dots(0, 37, 0, "........");
        // no glyph, an empty glyph and a white glyph
        fresh().stream(font + Tester.glyph(1, 65, 0, 0, 0, 9, 0) + Tester.glyph(1, 66, 0, 0, 9, 0, 0) + Tester.glyph(1, 67, 0, 0, 8, 9, 0)
                + "AB").status(4, 0).status(5, 0).stream("C").status(4, 1).status(5, 9).stream("\33E").status(2, 1);
    }

    private static void turns() {
        String font = Tester.plainFont(1, 1) + Tester.glyph(1, 65, 0, 0, 3, 2, 0, 0xE0, 0x80);
        // 637 by 825 dots; the place 0, 3600 is the dot 18 (15 on its side), line 37
        String[] o = {"", "\33&l1O", "\33&l2O", "\33&l3O"};
        int[][] place = {{18, 37}, {37, 824 - 15}, {636 - 18, 824 - 37}, {636 - 37, 15}};
        int[][][] black = {{{0, 0}, {1, 0}, {2, 0}, {0, 1}}, {{0, 0}, {0, -1}, {0, -2}, {1, 0}}, {{0, 0}, {-1, 0}, {-2, 0}, {0, -1}},
            {{0, 0}, {0, 1}, {0, 2}, {-1, 0}}};
        for (int k = 0; k < 4; k++) {
            Tester t = fresh().stream(font + o[k] + "\33*p0x0YA");
            t.conclude();
            StringBuilder[] lines = new StringBuilder[5];
            for (int j = 0; j < 5; j++) {
                lines[j] = new StringBuilder(".....");
            }
            for (int[] b : black[k]) {
                lines[b[1] + 2].setCharAt(b[0] + 2, '#');
            }
            for (int j = 0; j < 5; j++) {
                t.dots(0, place[k][1] + j - 2, place[k][0] - 2, lines[j].toString());
            }
            Tester.due("across", t.sheetOf(0, 0), 637);
        }
    }

    private static void rules() {
        // widths by dots of 24 units, and by 10 units; what is left over is one more dot of 96 units
        int[][] sizes = {{1, 1}, {4, 1}, {5, 2}, {8, 2}};
        for (int[] s : sizes) {
            Tester t = fresh().stream("\33*c" + s[0] + "a1b0P\33*p100Y\33*c" + s[0] + "b1a0P");
            t.conclude();
            t.dots(0, 46, 17, "." + "#".repeat(s[1]) + "...");
            t.dots(0, 62 + s[1] - 1, 17, ".#.").dots(0, 62 + s[1], 17, "...");
        }
        Tester t = fresh().stream("\33*c9.6h9.7V\33*cP");
        t.conclude();
        t.dots(0, 46, 17, ".#.").dots(0, 47, 17, ".#.").dots(0, 48, 17, "...");
        t = fresh().stream("\33*c20h.05V\33*cP").status(4, 0).stream("\33*c.1V\33*cP").status(4, 1);
        t.conclude();
        t.dots(0, 46, 17, ".###.");
        fresh().stream("\33*c9a9b0p1p2p3p4p5p6p50g2p3p101g2p6g3p7g3P").status(4, 5).status(5, 0).at(0, 4500);
        fresh().stream("\33*c9a9b-5P").status(4, 1);
        fresh().stream("\33*c9a-9b0P\33*c9a9b0P").status(4, 1);
        // the largest one covers the sheet from its place on
        t = fresh().stream("\33*c32767a32767b0P");
        t.conclude();
        t.dots(0, 45, 630, ".......").dots(0, 46, 16, "..##").dots(0, 824, 630, "#######.");
    }

    private static void inks() {
        String black = "\33*p0x0Y\33*c80a80b0P";
        // a white rule is opaque whatever the ink is
        Tester t = fresh().stream(black + "\33*p8x8Y\33*c8a8b1P");
        t.conclude();
        t.dots(0, 38, 18, "####").dots(0, 39, 18, "##..####").dots(0, 40, 18, "##..####").dots(0, 41, 18, "####");
        // the ink is that of the mark's time, and the pattern that of the ink's
        t = fresh().stream("\33*c1G\33*v3T\33*c2G\33*p0x0Y\33*c400a400b5P\33*v1t0T");
        t.conclude();
        // hatch 1: lines 7 and 8 of 16; line 37 is 5 of 16
        t.dots(0, 38, 18, "....").dots(0, 39, 16, "..####").dots(0, 40, 16, "..####").dots(0, 41, 18, "....").dots(0, 55, 18, "####");
        // an ink that is none leaves the ink as it is
        fresh().stream("\33*c7G\33*v3t4tT\33*c101G\33*v2T\33*c0G\33*v2t3T\33*c9a9b5P").status(4, 1);
        for (int h = 1; h <= 6; h++) {
            t = fresh().stream("\33*p0x0Y\33*c400a400b" + h + "g3P");
            t.conclude();
            for (int y = 48; y < 64; y++) {
                StringBuilder want = new StringBuilder();
                for (int x = 32; x < 64; x++) {
                    int u = x % 16;
                    int v = y % 16;
                    boolean one = v == 7 || v == 8;
                    boolean two = u == 7 || u == 8;
                    boolean three = (u + v) % 16 < 2;
                    boolean four = (u - v + 16) % 16 < 2;
                    boolean[] all = {one, two, three, four, one || two, three || four};
                    want.append(all[h - 1] ? '#' : '.');
                }
                t.dots(0, y, 32, want.toString());
            }
        }
    }

    private static void opaqueInks() {
        // a black field, then a glyph #.#. in each way: at dot 18 + 2, line 37 + 2
        String field = "\33*p0x0Y\33*c80a80b0P\33*p8x8Y";
        String font = Tester.plainFont(1, 1) + Tester.glyph(1, 65, 0, 0, 4, 1, 0, 0xA0);
        String[][] ways = {
            {"", "########"}, {"\33*v1N", "###.#.##"}, {"\33*v1T", "########"}, {"\33*v1o1T", "##.#.###"}, {"\33*v1n1o1T", "##....##"},
            {"\33*v1n1o1t2n0o2O", "###.#.##"}, {"\33*v1n0n1oO", "########"}};
        for (String[] w : ways) {
            Tester t = fresh().stream(font + field + w[0] + "A");
            t.conclude();
            t.dots(0, 39, 18, w[1]).dots(0, 38, 18, "########");
        }
        // rows likewise: up to their last black dot
        String[][] rows = {{"", "########", "########"}, {"\33*v1N", "########", "###..###"}, {"\33*v1n1o1T", "##.#####", "##....##"}};
        for (String[] w : rows) {
            Tester t = fresh().stream(field + w[0] + "\33*r1A\33*b2W\200\0");
            t.conclude();
            t.dots(0, 39, 18, w[1]);
            t = fresh().stream(field + w[0] + "\33*r1A\33*b1W\220");
            t.conclude();
            t.dots(0, 39, 18, w[2]);
        }
        // rules: black ones and shades are opaque as the ink is
        Tester t = fresh().stream(field + "\33*c8a8b1g2P");
        t.conclude();
        t.dots(0, 39, 18, "########");
        t = fresh().stream(field + "\33*v1O\33*c8a8b1g2P");
        t.conclude();
        t.dots(0, 39, 18, "##..####").dots(0, 40, 18, "##..####").dots(0, 41, 18, "########");
    }

    private static void shades() {
        int[][] order = new int[8][8];
        for (int i = 0; i < 8; i++) {
            for (int j = 0; j < 8; j++) {
                for (int b = 0; b < 3; b++) {
                    order[i][j] += (32 >> 2 * b) * (((i >> b) ^ (j >> b)) & 1) + (16 >> 2 * b) * (j >> b & 1);
                }
            }
        }
        Tester.due("D(1, 0)", order[1][0], 32);
        Tester.due("D(1, 1)", order[1][1], 16);
        Tester.due("D(0, 1)", order[0][1], 48);
        Tester.due("D(2, 0)", order[2][0], 8);
        for (int s : new int[] {1, 2, 3, 25, 50, 51, 75, 98, 99, 100}) {
            Tester t = fresh().stream("\33*p0x0Y\33*c400a400b" + s + "g2P");
            t.conclude();
            for (int y = 40; y < 48; y++) {
                StringBuilder want = new StringBuilder();
                for (int x = 24; x < 40; x++) {
                    want.append(order[x % 8][y % 8] < (64 * s + 99) / 100 ? '#' : '.');
                }
                t.dots(0, y, 24, want.toString());
            }
        }
    }

    private static void rasters() {
        fresh().status(20, 0).stream("\33*rA").status(20, 1).status(21, 0).stream("\33*b1W\1").status(21, 1).stream("\33*rB").status(20, 0).status(21, -1);
        fresh().stream("\33*r2A").status(20, 0).stream("\33*r1a\33*b5y1A").status(21, 5);
        fresh().stream("\33*b0W").status(20, 1).status(21, 1).status(4, 0);
        fresh().stream("\33*b5Y").status(20, 0).stream("\33*rC").at(0, 4500);
        // heights
        Tester t = fresh().stream("\33*r3T\33*b1w\1" + "1w\1" + "1w\1" + "1W\1");
        t.status(21, 3).status(4, 3).stream("\33*b9Y").status(21, 3).stream("\33*rC").at(0, 4416 + 3 * 96);
        t.stream("\33*b1W\1").status(21, 1).stream("\33*r0T\33*b5Y").status(21, 3).stream("\33*rB\33*b5y").status(20, 0).stream("W").status(21, 1);
        t.stream("\33*b32767Y").status(21, 30000).stream("\33*b1w\1" + "3Y").status(21, 30001);
        fresh().stream("\33*r5119T\33*r5120T\33*rA\33*b32767Y").status(21, 5119);
        fresh().stream("\33*r5119S\33*r5120S\33*b640W" + "\0".repeat(639) + "\3").status(5, 640);
        fresh().stream("\33*r5119S\33*r5120S\33*b640W" + "\0".repeat(639) + "\1").status(5, 0);
        fresh().stream("\33*r8s0S\33*b2W\0\1").status(5, 2);
        fresh().stream("\33*r9S\33*b2W\1\200").status(5, 2).stream("\33*b2W\0\100").status(5, 2).status(4, 1);
        // the height is padded out at the end, and Y is the line behind it
        fresh().stream("\33*r10T\33*rA\33*b1W\1\33*rC").at(0, 4416 + 960);
        fresh().stream("\33*rA\33*b1W\1\33*rC").at(0, 4416 + 96);
        fresh().stream("\33*rA\33*b30000\33*rC").at(0, 4416).stream("\33*rA\33*b30000y\33*rC").at(0, 79200);
        new Tester(300, 1).stream("\33*rA\33*b1W\1\33*rC").at(0, 187 * 24 + 4 * 24);
        new Tester(300, 1).stream("\33*t300R\33*rA\33*b1W\1\33*rC").at(0, 188 * 24);
        // resolutions, not in an open raster
        new Tester(300, 1).stream("\33*t200r150r300r299R\33*rA\33*t75R\33*b1W\1\33*rC").at(0, 188 * 24).stream("\33*b1W\1\33*rC").at(0, 189 * 24);
        new Tester(150, 1).stream("\33*t100R\33*b1W\1\33*rC").at(0, 94 * 48);
        new Tester(150, 1).stream("\33*t300R\33*b1W\1\33*rC").at(0, 94 * 48);
        // the method is 0 behind an end, whatever it was
        fresh().stream("\33*b1m0W\33*rC\33*b2W\1\200").status(5, 2);
        fresh().stream("\33*b1m4m2W\1\200").status(5, 2).status(4, 1);
        fresh().stream("\33*b1m2W\0\200").status(5, 1);
    }

    private static void rasterPlaces() {
        Tester t = fresh().stream("\33*p40x0Y\33*rA\33*b1W\300\33*rC\33*r1A\33*b1W\240\33*p400x400Y\33*b1W\300");
        t.conclude();
        t.dots(0, 37, 16, "..##......").dots(0, 38, 16, "............#.#.").dots(0, 39, 16, "............##..");
        // 4 by 4 dots each at 300 dpi
        t = new Tester(300, 16).stream("\33*p0x0Y\33*r1A\33*b1w\240" + "1W\100\33*rC");
        t.conclude();
        t.dots(0, 149, 75, "............").dots(0, 150, 74, ".####....####.").dots(0, 153, 74, ".####....####.").dots(0, 154, 74, ".....####.....")
                .dots(0, 157, 74, ".....####.....").dots(0, 158, 74, "..............");
        // the turn is that of the row's time: the place stays in units
        t = fresh().stream("\33*p0x0Y\33*r1A\33&l1O\33*b1W\300");
        t.status(2, 0).conclude();
        t.dots(0, 809, 36, ".#.").dots(0, 808, 36, ".#.").dots(0, 807, 36, "...").dots(0, 810, 36, "...");
        t = fresh().stream("\33*p0x0Y\33*r1A\33&l3O\33*b2y1W\300");
        t.conclude();
        t.dots(0, 15, 597, "#..").dots(0, 16, 597, "#..").dots(0, 17, 597, "...").dots(0, 15, 596, ".#.");
    }

    private static void unpacking() {
        row("\33*b3W\1\2\3", "\1\2\3");
        row("\33*b1m4W\2\201\0\1", "\201\201\201\1");
        row("\33*b1m5W\2\201\0\1\3", "\201\201\201\1");
        row("\33*b2m5W\1\201\1\376\1", "\201\1\1\1\1");
        row("\33*b2m6W\200\200\0\1\377\2", "\1\2\2");
        row("\33*b2m3W\5\201\1", "\201\1");
        row("\33*b2m3W\0\201\201", "\201");
        row("\33*b2m1W\0", "");
        row("\33*b3m4W\0\1\1\1", "\1\0\1");
        row("\33*b3m5W\145\1\2\3\4", "\0\0\0\0\0\1\2\3\4");
        row("\33*b3w\1\2\3" + "3m2W\1\7", "\1\7\3");
        row("\33*b3w\1\2\3" + "3m0W", "\1\2\3");
        row("\33*b3w\1\2\3" + "3m1W\0", "\1\2\3");
        row("\33*b3w\1\2\3" + "3m1y2W\1\7", "\0\7");
        row("\33*b3m3W\37\1\5", "\0".repeat(32) + "\5");
        row("\33*b3m4W\37\377\1\5", "\0".repeat(31 + 256) + "\5");
        row("\33*b3m3W\37\377\0", "");
        row("\33*b3m4W\37\377\0\5", "\0".repeat(31 + 255) + "\5");
        row("\33*b3m2W\37\377", "");
        row("\33*b3m6W\77\377\377\141\0\5", "\0".repeat(31 + 510 + 97 + 1) + "\5");
        row("\33*b3m6W\77\377\377\142\5\6", "\0".repeat(640 - 1) + "\5");
        row("\33*r16S\33*b4W\1\2\3\4", "\1\2");
        row("\33*r12S\33*b2w\1\37" + "3m2W\0\1", "\1\20");
    }

    /** The last row of a stream has these bytes, up to its last black dot. */
    private static void row(String stream, String want) {
        Tester t = new Tester(75, 64).stream("\33&l6A\33*p0x0Y" + stream);
        int row = t.x.status(21);
        if (row == 1) {
            t.status(5, want.length());
        }
        t.conclude();
        for (int i = 0; i < want.length(); i++) {
            StringBuilder bits = new StringBuilder(Integer.toBinaryString(256 + want.charAt(i)).substring(1));
            int x = 18 + 8 * i;
            if (x + 8 <= 825) {
                t.dots(0, 37 + row - 1, x, bits.toString().replace('1', '#').replace('0', '.'));
            }
        }
        t.dots(0, 37 + row - 1, 18 + 8 * want.length(), "................");
    }

    private static void overrun() {
        String s = Tester.rules(4096);
        Tester t = fresh().stream(s);
        t.status(4, 4096).status(6, 0).stream("\33*c0P").status(4, 4096).status(6, 1).stream("\f").status(6, 0).status(4, 0).status(25, 1);
        t.stream("A\f").status(25, 1).stream(s + "\33*c0P\33&l3X\33E").status(25, 2).status(2, 5).conclude();
        t.status(25, 0);
        // 32 glyphs of 2048 bytes
        t = fresh().stream(Tester.plainFont(1, 1) + Tester.glyph(1, 65, 0, 0, 128, 128, 0) + Tester.glyph(1, 66, 0, 0, 1, 1, 0)
                + Tester.glyph(1, 67, 0, 0, 0, 1, 0) + "A".repeat(31) + "\33*r1A").status(5, 31 * 2048);
        t.stream("B").status(5, 31 * 2048 + 1).stream("A").status(5, 31 * 2048 + 1).status(6, 1).status(4, 32);
        t.stream("\f" + "A".repeat(32)).status(5, 65536).status(6, 0).stream("C").status(6, 0).stream("\33*b1W\0").status(6, 0);
        t.stream("\33*c1a1b0P").status(6, 0).status(4, 33).stream("\33*b1W\1").status(6, 1).status(4, 33).stream("\f").status(25, 2);
        // off the sheet a mark takes its room all the same; what has no room makes the sheet due
        fresh().stream("\33*r1A\33*b30000y1W\1").status(4, 1).status(5, 1);
        t = fresh().stream(s).stream("\f\f").status(2, 2).stream(s + "\33*c0P");
        t.stream("\f".repeat(38) + "A\f").status(3, 20).status(2, 40).status(25, 1).status(6, 0).conclude();
        t.stream("\f".repeat(40) + s + "\33*c0P\f").status(3, 20).status(25, 1).status(4, 0);
    }
}
