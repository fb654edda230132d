/** The bounds of the font shelf, sentence by sentence: fonts, glyphs, wishes, pins, and steps. */
public final class FontBoundsTest {
    private static final int[] PLAIN = {277, 0, 1000, 1200, 0, 0, 3};
    private static final String HEAD = Tester.plainFont(7, 0).substring("\33*c7D\33)s14W".length());

    public static void main(String[] args) {
        theIdAtHand();
        theCodeNotAbove255();
        whatGoes();
        anyOtherFSaysNothing();
        attributes();
        numbersOfAFontMissing();
        inPlaceOfOneOfThisId();
        atMost32Fonts();
        glyphNumbers();
        numbersOfAGlyphMissing();
        noFontOfThatId();
        dotsMissingOrTooMany();
        bitsBeyondTheWidth();
        atMost256Glyphs();
        atMost16384Bytes();
        inPlaceOfOneOfThisCode();
        wishesThatCanNotBe();
        eachOtherOneEndsThePin();
        theSet();
        pinnedIfThereIsSuchAFont();
        asLongAsThereIsOne();
        choosing();
        theWishAtFirst();
        chosenFromAnEmptyShelf();
        stepAtMost20000();
        onlyWithSpacing1();
        Tester.end();
    }

    private static Tester fresh() {
        return new Tester(75, 16);
    }

    private static int[] with(int attribute, int number) {
        int[] f = PLAIN.clone();
        f[attribute] = number;
        return f;
    }

    /** "* c D: the ID at hand is n"; "A FONT has an ID 0 .. 32767"; "There is an ID and a CODE at hand, at first 0 and 0." */
    private static void theIdAtHand() {
        fresh().stream("\33)s14W" + HEAD).status(14, 0);
        for (int id : new int[] {0, 1, 32766, 32767}) {
            fresh().stream("\33*c" + id + "D\33)s14W" + HEAD).status(14, id);
        }
        fresh().stream("\33*c32768D\33)s14W" + HEAD).status(14, 32767);
        fresh().stream("\33*c9d-1D\33)s14W" + HEAD).status(14, 0);
        Tester t = fresh().stream("\33*c9d65E");
        t.conclude();
        t.stream("\33)s14W" + HEAD).status(14, 0).stream("\33(s11W\0\0\0\0\0\10\0\1\0\0\377").status(13, 1).stream("A").status(4, 0)
                .stream("\33&p1X\0").status(4, 1);
    }

    /** "* c E: the CODE at hand is n, if n is not above 255" */
    private static void theCodeNotAbove255() {
        String font = Tester.plainFont(1, 0);
        String glyph = "\33(s11W\0\0\0\0\0\10\0\1\0\0\377";
        for (int code : new int[] {0, 1, 27, 32, 65, 127, 128, 254, 255}) {
            String shown = "\33&p1X" + Tester.text(code);
            fresh().stream(font + "\33*c" + code + "E" + glyph + shown).status(4, code == 32 ? 0 : 1);
            for (String beyond : new String[] {"256", "257", "511", "32767", "65536"}) {
                fresh().stream(font + "\33*c" + code + "e" + beyond + "E" + glyph + shown).status(4, code == 32 ? 0 : 1).status(13, 1);
            }
        }
        for (String beyond : new String[] {"256", "321", "32767"}) {
            Refused.nothing("\33*c" + beyond + "E");
        }
    }

    /** "* c F: n 0: all fonts go; 1: all that are not PERMANENT; 2: that of the ID at hand; 3: its glyph of the CODE at hand; 4: it is not PERMANENT; 5: it is" */
    private static void whatGoes() {
        String three = Tester.plainFont(1, 1) + Tester.glyph(1, 65, 0, 0, 8, 1, 9, 255) + "\33*c5F" + Tester.plainFont(2, 1)
                + Tester.glyph(2, 65, 0, 0, 8, 1, 9, 255) + Tester.glyph(2, 66, 0, 0, 8, 2, 9, 255, 1) + Tester.plainFont(3, 1)
                + Tester.glyph(3, 67, 0, 0, 8, 2, 9, 255, 1);
        fresh().stream(three).status(12, 3).status(13, 4).stream("\33*c0F").status(12, 0).status(13, 0).status(14, -1);
        fresh().stream(three + "\33*c1F").status(12, 1).status(13, 1).status(14, 1).stream("A").status(4, 1);
        fresh().stream(three + "\33*c2F").status(12, 2).status(13, 3).status(14, 2);
        fresh().stream(three + "\33*c2d2F").status(12, 2).status(13, 2).status(14, 3);
        fresh().stream(three + "\33*c2d66e3F").status(12, 3).status(13, 3).stream("\33(2XA").status(4, 1).stream("B").status(4, 1);
        fresh().stream(three + "\33*c2d67e3F").status(13, 4);
        fresh().stream(three + "\33*c1d4f1F").status(12, 0).status(13, 0);
        fresh().stream(three + "\33*c2d5f1F").status(12, 2).status(14, 2);
        // of an ID without a font they say nothing
        for (int n = 2; n <= 5; n++) {
            Refused.nothing(Refused.SETUP + "\33*c77D", "\33*c" + n + "F");
        }
        Refused.nothing(Refused.SETUP + "\33*c1d99E", "\33*c3F");
        Refused.nothing(Refused.SETUP + "\33*c2D", "\33*c5F");
        Tester t = fresh().stream(three);
        t.conclude();
        t.status(12, 1).status(13, 1).status(14, 1);
        // all room is there again
        StringBuilder many = new StringBuilder("\33*c0F");
        for (int id = 0; id < 32; id++) {
            many.append(Tester.plainFont(id, 0));
        }
        fresh().stream(many + "" + many).status(12, 32);
        StringBuilder large = new StringBuilder(Tester.plainFont(1, 1));
        for (int code = 65; code < 73; code++) {
            large.append(Tester.glyph(1, code, 0, 0, 128, 128, 9));
        }
        for (String gone : new String[] {"\33*c0F", "\33*c1F", "\33*c2F"}) {
            fresh().stream(large + gone).status(13, 0).stream(large.toString()).status(13, 8).stream("A").status(5, 2048);
        }
        otherFontsStay();
    }

    /** When a font goes, those behind it keep their attributes, their glyphs, and whether they are PERMANENT */
    private static void otherFontsStay() {
        int[][] fonts = {{100, 0, 1000, 1200, 0, 0, 3}, {200, 1, 900, 700, 4, -3, 9}, {300, 0, 57600, 99999, 32767, 7, 65535}, {400, 1, 1, 1, 1, 1, 1}};
        String[] sets = {"3D", "6H", "9L", "12P"};
        for (int gone = 0; gone < 4; gone++) {
            for (int kept = 0; kept < 4; kept++) {
                StringBuilder s = new StringBuilder();
                for (int i = 0; i < 4; i++) {
                    s.append(Tester.font(i + 1, fonts[i])).append(Tester.glyph(i + 1, 65, 0, 0, 8, i + 1, 100 * i + 100, 255, 129));
                    s.append(i == kept ? "\33*c5F" : "");
                }
                s.append("\33*c").append(gone + 1).append("d2F");
                for (int i = 0; i < 4; i++) {
                    if (i != gone) {
                        Tester t = fresh().stream(s + "\33(" + sets[i]).status(12, 3).status(13, 3).status(14, i + 1);
                        t.stream("A").at(fonts[i][1] == 1 ? 100 * i + 100 : 720, 4500).status(5, i + 1);
                        // its wish by a pin, for its other attributes
                        t.stream("\33(" + (i + 1) + "X\33*c77D" + Tester.font(77, fonts[i])).status(14, i + 1).stream("\33(s" + fonts[i][4] + "S").status(14, 77);
                        t.stream("\33*c1F").status(12, kept == gone ? 0 : 1).status(14, kept == gone ? -1 : kept + 1);
                    }
                }
            }
        }
    }

    private static void anyOtherFSaysNothing() {
        for (String n : new String[] {"6", "7", "8", "10", "256", "32767"}) {
            Refused.nothing("\33*c" + n + "F");
            // of a PERMANENT font, too
            Refused.nothing(Refused.SETUP + "\33*c2D", "\33*c" + n + "F");
        }
    }

    /** "0 SET 0 .. 2047, 1 SPACING 0 (even) or 1, 2 PITCH 1 .. 57600, 3 HEIGHT 1 .. 99999, 4 STYLE 0 .. 32767, 5 WEIGHT -7 .. 7, 6 FACE 0 .. 65535" */
    private static void attributes() {
        int[][] inside = {{0, 1, 2046, 2047}, {0, 1}, {1, 2, 57599, 57600}, {1, 2, 99998, 99999}, {0, 1, 32766, 32767}, {-7, -6, 0, 6, 7}, {0, 1, 65534, 65535}};
        int[][] beyond = {{2048, 2049, 32767, 32768, 65535}, {2, 3, 128, 255}, {0, 57601, 65535}, {0, 100000, 165535, 0x7FFFFF}, {32768, 65535},
            {-8, 8, -9, 9, 127, -128}, {}};
        for (int a = 0; a < 7; a++) {
            for (int n : inside[a]) {
                fresh().stream(Tester.font(5, with(a, n))).status(12, 1).status(14, 5);
            }
            for (int n : beyond[a]) {
                fresh().stream(Tester.font(5, with(a, n))).status(12, 0).status(14, -1);
                Refused.nothing(Refused.SETUP + "\33*c1D", Tester.font(1, with(a, n)));
            }
        }
        // the HEIGHT has four bytes: 0x01000001 is none, and neither is one below 0
        for (String height : new String[] {"\1\0\0\1", "\200\0\0\1", "\377\377\377\377", "\0\0\0\0", "\0\1\206\240"}) {
            fresh().stream("\33)s14W" + HEAD.substring(0, 5) + height + HEAD.substring(9)).status(12, 0);
        }
        fresh().stream("\33)s14W" + HEAD.substring(0, 5) + "\0\1\206\237" + HEAD.substring(9)).status(12, 1);
    }

    /** "Nothing happens if numbers are missing" of a font: it has fourteen bytes of them, "and anything" */
    private static void numbersOfAFontMissing() {
        for (int n = 0; n < 14; n++) {
            fresh().stream("\33)s" + n + "W" + HEAD.substring(0, n)).status(12, 0).status(14, -1);
            Refused.nothing("\33)s" + n + "W" + HEAD.substring(0, n));
        }
        for (int n = 14; n < 30; n++) {
            fresh().stream("\33)s" + n + "W" + HEAD + "\377".repeat(n - 14) + "A").status(12, 1).at(720, 4500);
        }
        fresh().stream("\33)s4097W" + HEAD + "\377".repeat(4083) + "A").status(12, 1).at(720, 4500);
        // what is left of other data is not taken for it
        fresh().stream("\33)s14W" + HEAD + "\33*c8D\33)s13W" + HEAD.substring(0, 13)).status(12, 1).status(14, 0);
        fresh().stream("\33)s14W" + HEAD + "\33*c8D\33)s0W").status(12, 1);
    }

    /** "a font of the ID at hand comes, behind all others and in place of one of this ID, without glyphs and not PERMANENT" */
    private static void inPlaceOfOneOfThisId() {
        String two = Tester.plainFont(1, 1) + Tester.glyph(1, 65, 0, 0, 8, 8, 9) + "\33*c5F" + Tester.plainFont(2, 1);
        Tester t = fresh().stream(two).status(14, 2).status(13, 1).stream(Tester.plainFont(1, 1)).status(12, 2).status(13, 0).status(14, 1);
        t.conclude();
        t.status(12, 0);
        t = fresh().stream(two);
        t.conclude();
        t.status(12, 1);
        // not PERMANENT, also where the one in whose place it comes was the last, or the only one
        t = fresh().stream(Tester.plainFont(1, 1) + "\33*c5F" + Tester.plainFont(1, 1));
        t.conclude();
        t.status(12, 0);
        t = fresh().stream(Tester.plainFont(1, 1) + Tester.plainFont(2, 1) + "\33*c5f2F" + Tester.plainFont(3, 1));
        t.conclude();
        t.status(12, 0);
        t = fresh().stream(Tester.plainFont(1, 1) + "\33*c5f0F" + Tester.plainFont(3, 1));
        t.conclude();
        t.status(12, 0);
    }

    /** "The shelf has at most 32 fonts, each ID once"; "no room (what a glyph or font stands in place of takes none" */
    private static void atMost32Fonts() {
        StringBuilder s = new StringBuilder();
        for (int id = 1; id <= 31; id++) {
            s.append(Tester.plainFont(id, 1));
        }
        fresh().stream(s.toString()).status(12, 31).stream(Tester.plainFont(40, 1)).status(12, 32).status(14, 40)
                .stream(Tester.plainFont(41, 1)).status(12, 32).status(14, 40).stream(Tester.plainFont(5, 1)).status(12, 32).status(14, 5)
                .stream(Tester.plainFont(1, 1)).status(12, 32).status(14, 1).stream("\33*c40d2F").status(12, 31).stream(Tester.plainFont(41, 1)).status(12, 32).status(14, 41);
        s.append(Tester.plainFont(40, 1));
        Refused.nothing(s + "\33*c50D", "\33)s14W" + HEAD);
        // a glyph of a font that found no room is none
        fresh().stream(s + Tester.plainFont(41, 1) + Tester.glyph(41, 65, 0, 0, 1, 1, 1)).status(13, 0);
    }

    /** "A GLYPH has LEFT and TOP (-16384 .. 16383), WIDTH and DEPTH (0 .. 128), STEP (0 .. 32767)" */
    private static void glyphNumbers() {
        int[] plain = {0, 0, 8, 8, 9};
        int[][] inside = {{-16384, -16383, -1, 16382, 16383}, {-16384, -16383, -1, 16382, 16383}, {0, 1, 127, 128}, {0, 1, 127, 128}, {0, 1, 32766, 32767}};
        int[][] beyond = {{-16385, 16384, -32768, 32767}, {-16385, 16384, -32768, 32767}, {129, 130, 256, 32767, 32768, 65535},
            {129, 130, 256, 32767, 32768, 65535}, {32768, 40000, 65535}};
        String font = Tester.plainFont(1, 1);
        for (int i = 0; i < 5; i++) {
            for (int n : inside[i]) {
                int[] g = plain.clone();
                g[i] = n;
                fresh().stream(font + Tester.glyph(1, 65, g[0], g[1], g[2], g[3], g[4])).status(13, 1);
            }
            for (int n : beyond[i]) {
                int[] g = plain.clone();
                g[i] = n;
                fresh().stream(font + Tester.glyph(1, 65, g[0], g[1], g[2], g[3], g[4])).status(13, 0);
                Refused.nothing(Refused.SETUP, Tester.glyph(1, 65, g[0], g[1], g[2], g[3], g[4]));
            }
        }
    }

    private static void numbersOfAGlyphMissing() {
        String font = Tester.plainFont(1, 1) + "\33*c65E";
        String head = "\0\1\0\2\0\10\0\1\0\11";
        for (int n = 0; n < 10; n++) {
            fresh().stream(font + "\33(s" + n + "W" + head.substring(0, n)).status(13, 0);
            Refused.nothing("\33(s" + n + "W" + head.substring(0, n));
        }
        fresh().stream(font + "\33(s10W" + head).status(13, 1);
        fresh().stream(font + "\33(s10W" + head + "\33*c66E\33(s9W" + head.substring(0, 9)).status(13, 1);
    }

    private static void noFontOfThatId() {
        fresh().stream("\33(s10W\0\0\0\0\0\0\0\0\0\0").status(13, 0);
        Refused.nothing(Refused.SETUP + "\33*c9D", "\33(s10W\0\0\0\0\0\0\0\0\0\0");
        fresh().stream(Tester.plainFont(1, 1) + "\33*c2f\33(s10W\0\0\0\0\0\0\0\0\0\0").status(13, 0).status(12, 0);
    }

    /** "and its dots; those that are missing are white, what is too much is passed over" */
    private static void dotsMissingOrTooMany() {
        String font = Tester.plainFont(1, 1);
        String[] want = {"########.", "#......#.", "########."};
        for (int n = 0; n <= 5; n++) {
            int[] dots = java.util.Arrays.copyOf(new int[] {255, 129, 255, 255, 255}, n);
            Tester t = fresh().stream(font + Tester.glyph(1, 65, 0, 0, 8, 3, 0, dots) + "\33*p0x0YA").status(5, 3);
            t.conclude();
            for (int j = 0; j < 4; j++) {
                t.dots(0, 37 + j, 18, j < Math.min(3, n) ? want[j] : ".........");
            }
        }
        // white, also where dots of another glyph stood before
        Tester t = fresh().stream(font + Tester.glyph(1, 65, 0, 0, 8, 2, 0, 255, 255) + "\33*c3F" + Tester.glyph(1, 66, 0, 0, 8, 2, 0, 129)
                + "\33*p0x0YB");
        t.conclude();
        t.dots(0, 37, 18, "#......#.").dots(0, 38, 18, ".........");
        // the dots of the glyph behind stay
        t = fresh().stream(font + Tester.glyph(1, 65, 0, 0, 8, 1, 0, 255) + Tester.glyph(1, 66, 0, 0, 8, 1, 0, 129)
                + Tester.glyph(1, 65, 0, 0, 8, 1, 960, 195, 255, 255, 255) + "\33*p0x0YAB");
        t.conclude();
        t.dots(0, 37, 18, "##....##..#......#.");
    }

    /** "bits beyond the WIDTH are 0" */
    private static void bitsBeyondTheWidth() {
        for (int width = 1; width <= 17; width++) {
            int[] dots = new int[(width + 7) / 8];
            java.util.Arrays.fill(dots, 255);
            Tester t = fresh().stream(Tester.plainFont(1, 1) + Tester.glyph(1, 65, 0, 0, width, 1, 0, dots) + "\33*v1N\33*p0x0Y\33*c160a8b0PA").status(5, dots.length);
            t.conclude();
            t.dots(0, 37, 18, "#".repeat(40) + ".");
            t = fresh().stream(Tester.plainFont(1, 1) + Tester.glyph(1, 65, 0, 0, width, 1, 0, dots) + "\33*p0x0YA");
            t.conclude();
            t.dots(0, 37, 18, "#".repeat(width) + "........");
        }
    }

    /** "at most 256 glyphs in all" */
    private static void atMost256Glyphs() {
        StringBuilder s = new StringBuilder(Tester.plainFont(1, 1) + Tester.plainFont(2, 1));
        for (int i = 0; i < 255; i++) {
            s.append(Tester.glyph(1 + i % 2, i / 2, 0, 0, 0, 0, 0));
        }
        Tester t = fresh().stream(s.toString()).status(13, 255).stream(Tester.glyph(2, 200, 0, 0, 8, 1, 0)).status(13, 256);
        t.stream(Tester.glyph(2, 201, 0, 0, 8, 1, 0)).status(13, 256).stream("\33(2X\33&p1X" + Tester.text(201)).status(4, 0);
        // one in whose place a glyph comes takes no room; one that goes leaves it
        t.stream(Tester.glyph(2, 200, 0, 0, 16, 1, 0)).status(13, 256).stream("\33&p1X" + Tester.text(200)).status(4, 1).status(5, 2);
        t.stream("\33*c3F").status(13, 255).stream(Tester.glyph(2, 201, 0, 0, 8, 1, 0)).status(13, 256);
        // also the first one that came
        t.stream("\f" + Tester.glyph(1, 0, 0, 0, 24, 1, 0)).status(13, 256).stream("\33(1X\33&p1X\0").status(4, 1).status(5, 3);
        t.stream("\33*c1d2F").status(13, 128).stream(Tester.glyph(2, 202, 0, 0, 8, 1, 0)).status(13, 129);
        Refused.nothing(s + Tester.glyph(2, 200, 0, 0, 8, 1, 0), "\33*c201E\33(s10W\0\0\0\0\0\0\0\0\0\0\33*c200E");
    }

    /** "and 16384 bytes of them" */
    private static void atMost16384Bytes() {
        StringBuilder s = new StringBuilder(Tester.plainFont(1, 1));
        for (int i = 0; i < 7; i++) {
            s.append(Tester.glyph(1, 65 + i, 0, 0, 128, 128, 0));
        }
        // 2048 bytes are left
        fresh().stream(s + Tester.glyph(1, 80, 0, 0, 128, 128, 0)).status(13, 8).stream(Tester.glyph(1, 81, 0, 0, 1, 1, 0)).status(13, 8)
                .stream(Tester.glyph(1, 81, 0, 0, 0, 128, 0)).status(13, 9).stream(Tester.glyph(1, 82, 0, 0, 128, 0, 0)).status(13, 10);
        fresh().stream(s + Tester.glyph(1, 80, 0, 0, 121, 127, 0)).status(13, 8).stream(Tester.glyph(1, 81, 0, 0, 121, 1, 0)).status(13, 9)
                .stream(Tester.glyph(1, 82, 0, 0, 1, 1, 0)).status(13, 9);
        fresh().stream(s + Tester.glyph(1, 80, 0, 0, 128, 127, 0)).status(13, 8).stream(Tester.glyph(1, 81, 0, 0, 8, 17, 0)).status(13, 8)
                .stream(Tester.glyph(1, 81, 0, 0, 8, 16, 0)).status(13, 9);
        Refused.nothing(s + Tester.glyph(1, 80, 0, 0, 128, 128, 0), Tester.glyph(1, 81, 0, 0, 1, 1, 0) + "\33*c80E");
    }

    /** "in place of one of this CODE": what stands there takes no room; and stays, if the new one finds none */
    private static void inPlaceOfOneOfThisCode() {
        StringBuilder s = new StringBuilder(Tester.plainFont(1, 1));
        for (int i = 0; i < 8; i++) {
            s.append(Tester.glyph(1, 65 + i, 0, 0, 128, i == 7 ? 127 : 128, 0));
        }
        fresh().stream(s.toString()).status(13, 8).stream(Tester.glyph(1, 72, 0, 0, 128, 128, 0)).status(13, 8).stream("H").status(5, 2048);
        fresh().stream(s + Tester.glyph(1, 80, 0, 0, 8, 8, 0)).status(13, 9).stream(Tester.glyph(1, 72, 0, 0, 128, 128, 0) + "H").status(13, 9).status(5, 2032);
        fresh().stream(s + Tester.glyph(1, 80, 0, 0, 8, 8, 0)).stream(Tester.glyph(1, 80, 0, 0, 8, 17, 0) + "P").status(5, 8)
                .stream(Tester.glyph(1, 80, 0, 0, 8, 16, 0) + "P").status(5, 24);
        Refused.nothing(s + Tester.glyph(1, 80, 0, 0, 8, 8, 0), Tester.glyph(1, 80, 0, 0, 8, 17, 0));
        // also the first one that came
        fresh().stream(s + Tester.glyph(1, 80, 0, 0, 128, 1, 0)).status(13, 9).stream(Tester.glyph(1, 65, 0, 0, 128, 128, 7, 255) + "A").status(13, 9).at(7, 4500).status(5, 2048);
        fresh().stream(s + Tester.glyph(1, 80, 0, 0, 128, 1, 0)).stream(Tester.glyph(1, 65, 0, 0, 127, 127, 7, 255) + Tester.glyph(1, 81, 0, 0, 128, 1, 7)).status(13, 10);
        // the same CODE of another font is another glyph
        fresh().stream(Tester.plainFont(1, 1) + Tester.plainFont(2, 1) + Tester.glyph(1, 65, 0, 0, 8, 1, 0) + Tester.glyph(2, 65, 0, 0, 8, 2, 0)).status(13, 2)
                .stream("\33(1XA").status(5, 1).stream("\33(2XA").status(5, 3);
    }

    /** "A value that can not be changes nothing" */
    private static void wishesThatCanNotBe() {
        String[] beyond = {"s2P", "s3P", "s256P", "s32767P", "s0H", "s.0099H", "s-1H", "s576.01H", "s577H", "s32767H", "s0V", "s.0099V", "s-9V", "s1000V", "s32767V", "s8B", "s-8B", "s9B", "s-9B", "s32767B", "s-32767B", "64A", "64U", "32767B", "2048A"};
        for (String b : beyond) {
            Refused.nothing("\33(" + b);
            Refused.nothing("\33)" + b);
        }
        // what is no attribute of a wish, or no END of one
        for (String b : new String[] {"s1A", "s1C", "s1Q", "s1U", "s1X", "s1@", "s1Z", "p1P", "a1H", "1@", "1W!", "1Y", "1Z", "1[", "1^"}) {
            Refused.nothing("\33(" + b);
            Refused.nothing("\33)" + b);
        }
    }

    /** "each other one ends the PIN": also one that leaves the wish as it is */
    private static void eachOtherOneEndsThePin() {
        int[] f = {309, 1, 850, 900, 2, -2, 7};
        String fonts = Tester.font(1, f) + Tester.font(2, f) + Tester.font(3, f);
        String[] same = {"s1P", "s8.5H", "s9V", "s2S", "s-2B", "s7T", "9U"};
        for (String w : same) {
            fresh().stream(fonts + "\33(1X\33)2X").status(14, 1).status(15, 2).stream("\33(" + w).status(14, 3).status(15, 2).stream("\33)" + w).status(15, 3);
        }
        // the edges of what can be
        String[] edges = {"s0P", "s.01H", "s576H", "s576.0099H", "s.01V", "s999.99V", "s999.9999V", "s0S", "s32767S", "s-7B", "s7B", "s-7.9B", "s7.9B", "s0T", "s32767T", "0A",
            "63V", "63A", "0V"};
        for (String w : edges) {
            // a font of the ID 1 that comes ahead of one like it is chosen only by the pin
            String anew = "\33*c0F" + Tester.font(1, f) + Tester.font(9, f);
            fresh().stream(fonts + "\33(1X\33)1X" + anew).status(14, 1).status(15, 1);
            fresh().stream(fonts + "\33(1X\33)1X\33(" + w + anew).status(14, 9).status(15, 1);
            fresh().stream(fonts + "\33(1X\33)1X\33)" + w + anew).status(14, 1).status(15, 9);
        }
    }

    /** "an END 65 .. 86: SET is 32 * n + END - 64" */
    private static void theSet() {
        for (int end = 64; end <= 94; end++) {
            for (int n : new int[] {0, 1, 8, 62, 63, 64, 65, 32767}) {
                int set = 32 * n + end - 64;
                boolean can = end >= 65 && end <= 86 && set <= 2047;
                if (end == 'X' || end == 'W') {
                    continue;
                }
                // 1 has the set, if it is one; 2 has that of the wish at first
                String fonts = Tester.font(1, with(0, Math.min(2047, set))) + Tester.font(2, PLAIN);
                int want = can && set != 277 ? 1 : 2;
                fresh().stream(fonts + "\33(" + n + Tester.text(end)).status(14, want).status(15, 2);
                fresh().stream(fonts + "\33)" + n + Tester.text(end)).status(15, want).status(14, 2);
            }
        }
    }

    /** "X: if there is a font of ID n, it is PINNED to that, and the WISH becomes the ATTRIBUTES of this font (nothing changes otherwise)" */
    private static void pinnedIfThereIsSuchAFont() {
        for (String n : new String[] {"0", "4", "99", "32767", "65537"}) {
            Refused.nothing("\33(" + n + "X");
            Refused.nothing("\33)" + n + "X");
        }
        int[] f = {100, 1, 900, 700, 2, -3, 65535};
        String fonts = Tester.font(0, f) + Tester.font(32767, f) + Tester.font(1, PLAIN);
        fresh().stream(fonts).status(14, 1).stream("\33(X").status(14, 0).status(15, 1).stream("\33)32767X").status(15, 32767);
        // the attributes stay when the pin has gone: the wish is that of the font 0
        for (int a = 0; a < 7; a++) {
            int[] other = f.clone();
            other[a] = a == 1 ? 0 : f[a] - 1;
            fresh().stream(fonts + "\33(X\33*cF" + Tester.font(5, f) + Tester.font(6, other)).status(14, a == 2 ? 6 : 5);
        }
    }

    /** "The font CHOSEN is the PINNED one, as long as there is a font with that ID" */
    private static void asLongAsThereIsOne() {
        String fonts = Tester.font(1, PLAIN) + Tester.font(2, 5, 1, 9, 9, 9, 5, 9) + "\33(2X";
        fresh().stream(fonts).status(14, 2).stream("\33*c2d2F").status(14, 1).stream(Tester.font(2, 6, 0, 8, 8, 8, 4, 8)).status(14, 2)
                .stream("\33*c0F").status(14, -1).stream(Tester.font(3, PLAIN)).status(14, 3);
        Tester t = fresh().stream(fonts + "\33*c5F");
        t.conclude();
        t.stream(Tester.font(1, PLAIN)).status(14, 1);
    }

    private static void chosen(String wish, int want, int[]... fonts) {
        StringBuilder s = new StringBuilder();
        for (int i = 0; i < fonts.length; i++) {
            s.append(Tester.font(i + 1, fonts[i]));
        }
        fresh().stream(s + "\33(" + wish).status(14, want);
        fresh().stream(s + "\33)" + wish).status(15, want);
    }

    /** The steps by which a font is chosen, at their edges */
    private static void choosing() {
        // "the PITCH that is least among those not below that of the WISH; if all are below it, those with the greatest"
        chosen("s10H", 1, with(2, 1000), with(2, 1001), with(2, 999));
        chosen("s10.01H", 2, with(2, 1000), with(2, 1001), with(2, 1002));
        chosen("s10.02H", 2, with(2, 1000), with(2, 1001), with(2, 1000));
        chosen("s576H", 2, with(2, 1), with(2, 57600), with(2, 57599));
        chosen("s.01H", 1, with(2, 1), with(2, 2));
        // "if the SPACING of the WISH is 0 and all that are left have it"
        chosen("s1P", 2, new int[] {277, 1, 1000, 1200, 0, 0, 3}, new int[] {277, 1, 900, 1200, 0, 0, 3});
        chosen("s0P", 2, new int[] {277, 1, 1000, 1200, 0, 0, 3}, new int[] {277, 1, 900, 1200, 0, 0, 3});
        chosen("s0P", 1, with(2, 1000), with(2, 1100), new int[] {277, 1, 1000, 1200, 0, 0, 3});
        chosen("s1P", 2, with(2, 1000), with(2, 900));
        chosen("s1P", 2, with(2, 1000), with(2, 1100));
        // "nearest to that of the WISH; of two as near the greater one"
        chosen("s12V", 1, with(3, 5000), with(3, 6000));
        chosen("s500V", 1, with(3, 20000), with(3, 10000));
        chosen("s12V", 1, with(3, 1201), with(3, 1199));
        chosen("s12V", 2, with(3, 1202), with(3, 1199));
        chosen("s12V", 2, with(3, 1198), with(3, 1201));
        chosen("s12V", 1, with(3, 1200), with(3, 1201), with(3, 1199));
        chosen("s.01V", 1, with(3, 1), with(3, 2));
        chosen("s999.99V", 2, with(3, 1), with(3, 99999), with(3, 99998));
        chosen("s500V", 2, with(3, 1), with(3, 99999));
        chosen("s500V", 1, with(3, 2), with(3, 99999));
        // "for a WISH of 0 or more, those with the least WEIGHT above it, if there are any, otherwise with the greatest"
        chosen("s0B", 1, with(5, 0), with(5, 1), with(5, -1));
        chosen("s0B", 2, with(5, 2), with(5, 1), with(5, -1));
        chosen("s0B", 2, with(5, -2), with(5, -1), with(5, -7));
        chosen("s7B", 2, with(5, -7), with(5, 6), with(5, 5));
        chosen("s6B", 1, with(5, 7), with(5, 5));
        // "for one below 0 those with the greatest WEIGHT below it, if there are any, otherwise with the least"
        chosen("s-1B", 2, with(5, 0), with(5, -2), with(5, -3));
        chosen("s-1B", 2, with(5, 1), with(5, 0), with(5, 7));
        chosen("s-7B", 2, with(5, 7), with(5, -6), with(5, -5));
        chosen("s-6B", 1, with(5, -7), with(5, -5));
        // "those that are left by these steps": one that has gone is not looked at, however near it is
        chosen("s10H", 1, with(2, 1100), with(2, 1200), new int[] {5, 0, 1000, 1200, 0, 0, 3});
        chosen("s10H", 1, with(2, 900), with(2, 800), new int[] {5, 0, 950, 1200, 0, 0, 3});
        chosen("s10V", 1, with(3, 1100), with(3, 1300), new int[] {5, 0, 1000, 1000, 0, 0, 3});
        chosen("s10V", 1, with(3, 800), with(3, 700), new int[] {5, 0, 1000, 900, 0, 0, 3});
        chosen("s1B", 1, with(5, 3), with(5, 4), new int[] {5, 0, 1000, 1200, 0, 2, 3});
        chosen("s5B", 1, with(5, 3), with(5, 2), new int[] {5, 0, 1000, 1200, 0, 4, 3});
        chosen("s-1B", 1, with(5, -3), with(5, -4), new int[] {5, 0, 1000, 1200, 0, -2, 3});
        chosen("s-5B", 1, with(5, -3), with(5, -2), new int[] {5, 0, 1000, 1200, 0, -4, 3});
        chosen("s9S", 2, with(4, 1), with(4, 2), new int[] {5, 0, 1000, 1200, 9, 0, 3});
        chosen("s9T", 2, with(6, 1), with(6, 2), new int[] {5, 0, 1000, 1200, 0, 0, 9});
        chosen("s1P", 2, with(4, 1), with(4, 2), new int[] {5, 1, 1000, 1200, 0, 0, 3});
        // "At last those that are not PERMANENT, if there are any; and of these the one that came last"
        String three = Tester.font(1, PLAIN) + Tester.font(2, PLAIN) + Tester.font(3, PLAIN);
        fresh().stream(three + "\33*c3d5F").status(14, 2).stream("\33*c2d5F").status(14, 1).stream("\33*c1d5F").status(14, 3).stream("\33*c2d4F").status(14, 2);
    }

    /** "FONT 0 and FONT 1 each have a WISH, ATTRIBUTES, at first 277, 0, 1000, 1200, 0, 0, 3" */
    private static void theWishAtFirst() {
        for (int a = 0; a < 7; a++) {
            for (int by = -1; by <= 1; by += 2) {
                int[] other = with(a, a == 1 ? 1 : PLAIN[a] + by);
                boolean none = a == 4 && by < 0;
                if (!none) {
                    fresh().stream(Tester.font(1, PLAIN) + Tester.font(2, other)).status(14, 1).status(15, 1);
                    Tester t = fresh().stream("\33(5U\33(s1p7h7v7s7b7T\33)5U\33)s1p7h7v7s7b7T");
                    t.conclude();
                    t.stream(Tester.font(1, PLAIN) + Tester.font(2, other)).status(14, 1).status(15, 1);
                }
            }
        }
    }

    /** "There is none if the shelf is empty." */
    private static void chosenFromAnEmptyShelf() {
        fresh().stream("\33(s5b9T\33)5U").status(14, -1).status(15, -1).stream("A\16A").at(1440, 4500).status(4, 0);
        fresh().stream(Tester.font(1, 0, 1, 57600, 99999, 32767, 7, 65535)).status(14, 1).status(15, 1).stream("\33*c0F").status(14, -1);
    }

    /** "the glyph's STEP (20000, if it is more)" */
    private static void stepAtMost20000() {
        for (int step : new int[] {0, 1, 19999, 20000, 20001, 32767}) {
            fresh().stream(Tester.plainFont(1, 1) + Tester.glyph(1, 65, 0, 0, 1, 1, step) + "A").at(Math.min(20000, step), 4500);
            // it is what must fit, too: 37600 is 20000 ahead of RIGHT
            fresh().stream(Tester.plainFont(1, 1) + Tester.glyph(1, 65, 0, 0, 1, 1, step) + "\33&a3760HA").at(37600 + Math.min(20000, step), 4500).status(4, 1);
            fresh().stream(Tester.plainFont(1, 1) + Tester.glyph(1, 65, 0, 0, 1, 1, step) + "\33&a3760.1HA").status(4, step < 20000 ? 1 : 0);
        }
    }

    /** "if the font CHOSEN for its FONT has SPACING 1 and a glyph of its byte, the glyph's STEP ..; otherwise H" */
    private static void onlyWithSpacing1() {
        for (int spacing = 0; spacing < 2; spacing++) {
            String font = Tester.plainFont(1, spacing) + Tester.glyph(1, 65, 0, 0, 1, 1, 500);
            fresh().stream(font + "A").at(spacing == 1 ? 500 : 720, 4500).status(4, 1);
            fresh().stream(font + "B").at(720, 4500).status(4, 0);
            fresh().stream(font + "\33*c3FA").at(720, 4500).status(4, 0);
            fresh().stream(font + Tester.font(2, 5, 0, 1, 1, 1, 1, 1) + "\33)5A\33)2X\16A").at(720, 4500).status(4, 0).stream("\17A").at(spacing == 1 ? 1220 : 1440, 4500);
        }
    }
}
