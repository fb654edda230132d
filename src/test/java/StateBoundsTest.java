/** The bounds of the page and its state, sentence by sentence: characters, control codes and commands. */
public final class StateBoundsTest {
    private static final int[][] SIZES = {{1, 52200, 75600}, {2, 61200, 79200}, {3, 61200, 100800}, {6, 79200, 122400}, {26, 59528, 84189}};

    public static void main(String[] args) {
        aSize();
        anOrientation();
        aPlaceIsBroughtToThePage();
        homeIsBroughtToThePage();
        ejectIfDue();
        notLessThanRight();
        aboveRight();
        lostWithoutWrap();
        wrapped();
        backspace();
        tab();
        lineFeedAtTheHeight();
        lineFeedWithSkip();
        halfALine();
        otherControlCodes();
        copies1To99();
        lineStepAtMostHeight();
        linesAnInch();
        topNotAboveHeight();
        lengthAtLeast0();
        textLength();
        skip();
        lineEnd0To3();
        leftLessThanRight();
        rightAboveLeft();
        clearedMargins();
        wrapIf0();
        stackOf20();
        nothingOnTheStack();
        cursorMoves();
        defaults();
        behindAReset();
        Tester.end();
    }

    private static Tester fresh() {
        return new Tester(75, 16);
    }

    /** "THE PAGE has a SIZE: 1 .. 2 .. 3 .. 6 .. 26"; "& l A: if n is a SIZE" */
    private static void aSize() {
        for (int n = 0; n <= 40; n++) {
            boolean is = n == 1 || n == 2 || n == 3 || n == 6 || n == 26;
            fresh().stream("AB\33&l" + n + "A").status(9, is ? n : 2).status(2, is ? 1 : 0).at(is ? 0 : 1440, 4500);
            if (!is && (n < 9 || n > 23 && n < 29)) {
                Refused.nothing("\33&l" + n + "A");
            }
        }
        fresh().stream("A\33&l6.9999A").status(9, 6);
        Refused.nothing("\33&l32767A");
        Refused.nothing("\33&l-6A");
    }

    /** "an ORIENTATION 0 .. 3"; "& l O: if n is 0 .. 3" */
    private static void anOrientation() {
        for (int n = 0; n <= 3; n++) {
            fresh().stream("AB\33&l" + n + "O").status(10, n).status(2, 1).at(0, 4500);
        }
        for (String n : new String[] {"4", "5", "7", "8", "256", "32767", "65536"}) {
            fresh().stream("\33&l3o" + "\33&l" + n + "O").status(10, 3);
            Refused.nothing("\33&l" + n + "O");
        }
        fresh().stream("\33&l2oAB\33&l-3O").status(10, 0).status(2, 1);
    }

    /** "A place X is brought to 0 .. WIDTH, Y to 0 .. HEIGHT, whenever one is set." */
    private static void aPlaceIsBroughtToThePage() {
        for (int[] s : SIZES) {
            for (int o = 0; o < 4; o++) {
                int wide = o % 2 == 0 ? s[1] - 3600 : s[2] - 2880;
                int high = o % 2 == 0 ? s[2] : s[1];
                String page = "\33&l" + s[0] + "a" + o + "O";
                // in tenths of ten units: the last place on the page, and one behind it
                int x = wide / 10;
                int y = (high - 3600) / 10;
                fresh().stream(page + "\33&a" + x + "h" + y + "V").at(x * 10, 3600 + y * 10);
                fresh().stream(page + "\33&a" + x + "." + wide % 10 + "h" + y + "." + high % 10 + "V").at(wide, high);
                fresh().stream(page + "\33&a" + x + ".9999h" + y + ".9999V").at(Math.min(wide, x * 10 + 9), Math.min(high, 3600 + y * 10 + 9));
                fresh().stream(page + "\33&a" + (x + 1) + "h" + (y + 1) + "V").at(wide, high);
                fresh().stream(page + "\33&a+" + (x + 1) + "h+" + (y + 1) + "V").at(wide, high);
                fresh().stream(page + "\33&a999c999R").at(wide, high);
                fresh().stream(page + "\33*p32767x32767Y").at(wide, high);
                fresh().stream(page + "\33*p1x1Y\33*p-1x-1Y").at(0, 3600).stream("\33*p-1x-150Y").at(0, 0).stream("\33*p-1x-1Y").at(0, 0);
                fresh().stream(page + "\33&a-1h-450V").at(0, 0).stream("\33&a+.1h+.1V").at(1, 1).stream("\33&a-.1h-.1V").at(0, 0);
                fresh().stream(page + "\33&a-1c-3.75R").at(0, 0).stream("\33&a-1c-1R").at(0, 0);
                // a character near the edge, in the last step of the line
                fresh().stream(page + "\33&k" + wide / 60 + "." + wide % 60 * 10000 / 60 + "9HA").status(4, 0);
            }
        }
        // a place on the stack is brought to the page that is there when it is taken
        fresh().stream("\33&l6A\33*p9999x9999Y\33&f0S\33&l1A\33&f1S").at(48600, 75600);
    }

    /** "HOME is Y = TOP + V * 3 / 4", and is brought to the page where Y is set */
    private static void homeIsBroughtToThePage() {
        fresh().stream("\33&l6d65E").at(0, 4500).stream("\f").at(0, 78900).stream("\33&l66E\f").at(0, 79200);
        fresh().stream("\33&l528c1E\f").at(0, 79200).stream("\33&a0R").at(0, 79200).stream("\33&a-1R").at(0, 0);
        // quotients are dropped: V 10 has a HOME 7 below the top
        fresh().stream("\33&l.0667C\f").at(0, 3607).stream("\33&l.0734C\f").at(0, 3608);
    }

    /** "To eject IF DUE is to do so only if there was a GLYPH (painted or not), a RULE (but one that is none) or a ROW with a black dot since the sheet began, also one that lies off the sheet, or for which there was no room." */
    private static void ejectIfDue() {
        String glyph = Tester.plainFont(1, 1) + Tester.glyph(1, 'A', 0, 0, 8, 1, 5, 255) + Tester.glyph(1, 'B', 0, 0, 0, 0, 5)
                + Tester.glyph(1, 'C', 0, 0, 8, 1, 5) + Tester.glyph(1, 'D', 16383, 0, 8, 1, 5, 255);
        String full = Tester.rules(4096);
        String[] due = {glyph + "A", "A", glyph + "B", glyph + "C", glyph + "D", glyph + "Z", "\33&p1X\0", "\33*c1a1b0P", "\33*c1a1b1P", "\33*c.1h.1v5P",
            "\33*c1a1b50g2P", "\33*c1a1b6g3P", "\33*b1W\1", "\33*b1W\200", "\33*r1S\33*b1W\200", "\33*r1A\33*b30000y1W\1",
            "\33*p9999x9999Y\33*c1a1b0P", "\33*v1T\33*c1a1b5P", "\33*v1TA", "\33*r16S\33*b3W\0\1\377"};
        String[] not = {"", " ", "   \n\r\t\b", "\33&a80CA", "\33&p3X   ", "\33*c0a1b0P", "\33*c1a0b0P", "\33*c.09h1b0P", "\33*c1a1b4P", "\33*c1a1b6P",
            "\33*c1a1b0g2P", "\33*c1a1b101g2P", "\33*c1a1b0g3P", "\33*c1a1b7g3P", "\33*b1W\0", "\33*b0W", "\33*rA", "\33*r7S\33*b1W\1", "\33*b9Y", "\33*rA\33*b9y",
            "\33*r1T\33*b1w\0" + "1W\1", "\33*r16S\33*b3W\0\0\377", "\33*b1m1W\1", "\33*c100A", "\33&f1y0XAA\33&f1X", "A\f", "\33*c1a1b0P\33E"};
        String[] ways = {"\33E", "\33&l2A", "\33&l0O"};
        for (String way : ways) {
            for (String d : due) {
                fresh().stream(d + way).status(2, 1).stream(way).status(2, 1);
            }
            for (String n : not) {
                int before = fresh().stream(n).x.status(2);
                fresh().stream(n + way).status(2, before);
            }
            fresh().stream(full + "\f" + full + "\33*c0P").status(4, 4096).status(6, 1).stream(way).status(2, 2);
        }
        for (String d : due) {
            Tester t = fresh().stream(d);
            t.conclude();
            t.status(23, 1);
        }
        for (String n : not) {
            Tester t = fresh().stream(n);
            int pages = t.x.status(2);
            t.conclude();
            t.status(23, pages);
        }
    }

    /** "If X is not less than RIGHT, or X + STEP is above it": X at RIGHT, with a step of 0 */
    private static void notLessThanRight() {
        fresh().stream("\33&k0H\33&a5759HA\33E").status(2, 1);
        fresh().stream("\33&k0H\33&a5759.9HA\33E").status(2, 1);
        fresh().stream("\33&k0H\33&a5760HA\33E").status(2, 0);
        fresh().stream("\33&a9M\33&k0H\33&a719.9HA\33E").status(2, 1);
        fresh().stream("\33&a9M\33&k0H\33&a720HA\33E").status(2, 0);
        fresh().stream("\33&a9M\33&k0H\33&a720.1HA\33E").status(2, 0);
    }

    /** ".. or X + STEP is above it" */
    private static void aboveRight() {
        fresh().stream("\33&a5688HA").at(57600, 4500).stream("\33E").status(2, 1);
        fresh().stream("\33&a5688.1HA").at(56881, 4500).stream("\33E").status(2, 0);
        fresh().stream("\33&a9M\33&a648HA").at(7200, 4500).stream("\33E").status(2, 1);
        fresh().stream("\33&a9M\33&a648.1HA").at(6481, 4500).stream("\33E").status(2, 0);
        fresh().stream("\33&k960HA").at(57600, 4500);
        fresh().stream("\33&k960.0167HA").at(0, 4500);
        fresh().stream("\33&k32767.9999HA").at(0, 4500);
    }

    /** "without WRAP the character is lost" */
    private static void lostWithoutWrap() {
        Refused.nothing(Refused.SETUP + "\33&s1C\33&a70C", "AB \33&p2X\n\n");
        Tester t = fresh().stream("\33&a80CAAA\33&p3X\n\n\n ").at(57600, 4500).status(4, 0);
        t.conclude();
        t.status(23, 0);
    }

    /** "with WRAP a carriage return and a line feed come first": and then it comes, whether it fits or not */
    private static void wrapped() {
        fresh().stream("\33&s0C\33&a5688HA").at(57600, 4500).stream("A").at(720, 5700);
        fresh().stream("\33&s0C\33&a5688.1HA").at(720, 5700);
        fresh().stream("\33&s0C\33&a10l70M\33&a71CA").at(7920, 5700);
        fresh().stream("\33&s0C\33&k961HA").at(57600, 5700).stream("A").at(57600, 6900).stream("\33E").status(2, 1);
        // the line feed ejects where a line feed does; with SKIP, too
        fresh().stream("\33&s0C\33&a80C\33*p9999y-50YA").at(720, 79200).status(2, 0);
        fresh().stream("\33&s0C\33&a80C\33*p9999y-49YA").at(720, 4500).status(2, 1);
        fresh().stream("\33&l1L\33&s0C\33&a80c\33&a7080VA").at(720, 75600).status(2, 0);
        fresh().stream("\33&l1L\33&s0C\33&a80c\33&a7081VA").at(720, 4500).status(2, 1);
        // the character is of the sheet behind the eject
        Tester t = fresh().stream("\33&s0C\33&a80C\33*p9999YA").status(2, 1).stream("\33E").status(2, 2);
        t.conclude();
        t.status(23, 2);
        fresh().stream("\33&s0C\33&a80C ").at(720, 5700).stream("\33E").status(2, 0);
    }

    /** "8: X becomes X - H, but at least LEFT if X was not less than that (else at least 0)" */
    private static void backspace() {
        fresh().stream("\33&a1C\b").at(0, 4500).stream("\33&a+1.5C").at(1080, 4500).stream("\b").at(360, 4500).stream("\b").at(0, 4500).stream("\b").at(0, 4500);
        String left = "\33&a10L";
        fresh().stream(left + "\33&a11.5C\b").at(7560, 4500).stream("\b").at(7200, 4500).stream("\b").at(7200, 4500);
        fresh().stream(left + "\33&a11C\b").at(7200, 4500);
        fresh().stream(left + "\33&a10C\b").at(7200, 4500);
        fresh().stream(left + "\33&a719.9H\b").at(6479, 4500);
        fresh().stream(left + "\33&a1C\b").at(0, 4500);
        fresh().stream(left + "\33&a.5C\b").at(0, 4500);
        fresh().stream("\33&k0H\33&a100H\b").at(1000, 4500);
        fresh().stream("\33&k32767H\33&a5760H\b").at(0, 4500);
    }

    /** "9: if X is less than LEFT, X is LEFT; else it becomes the least LEFT + 8 * H * i that is above X, but at most RIGHT (there, if H is 0, nothing)" */
    private static void tab() {
        fresh().stream("\33&a10L\33&a719.9H\t").at(7200, 4500).stream("\t").at(7200 + 5760, 4500);
        fresh().stream("\33&a10L\33&a0H\t").at(7200, 4500);
        fresh().stream("\33&a8C\t").at(11520, 4500).stream("\33&a575.9H\t").at(5760, 4500).stream("\33&a576.1H\t").at(11520, 4500);
        // at most RIGHT: 57600 is ten times 5760
        fresh().stream("\33&a72C\t").at(57600, 4500).stream("\t").at(57600, 4500);
        fresh().stream("\33&a30M\33&a24C\t").at(22320, 4500).stream("\t").at(22320, 4500);
        fresh().stream("\33&a31M\33&a24C\t").at(23040, 4500);
        fresh().stream("\33&a32M\33&a24C\t").at(23040, 4500).stream("\t").at(23760, 4500);
        fresh().stream("\33&a30M\33&a50C\t").at(22320, 4500);
        // without a step nothing, but for a place that is less than LEFT
        fresh().stream("\33&a10L\33&k0H\33&a719.9H\t").at(7200, 4500).stream("\t").at(7200, 4500).stream("\33&a720.1H\t").at(7201, 4500);
        fresh().stream("\33&a30M\33&k0H\33&a5000H\t").at(50000, 4500);
        fresh().stream("\33&k32767.9999H\t").at(57600, 4500);
        fresh().stream("\33&k.0167H\t").at(8, 4500).stream("\t").at(16, 4500);
    }

    /** "A line feed: if Y + V is above HEIGHT .. eject; otherwise Y grows by V" */
    private static void lineFeedAtTheHeight() {
        for (int[] s : SIZES) {
            for (int o = 0; o < 2; o++) {
                int high = o == 0 ? s[2] : s[1];
                String page = "\33&l" + s[0] + "a" + o + "O\33*p32767Y";
                fresh().stream(page + "\33&a-120V\n").at(0, high).status(2, 0).stream("\n").at(0, 4500).status(2, 1);
                fresh().stream(page + "\33&a-119.9V\n").at(0, 4500).status(2, 1);
                fresh().stream(page + "\33&l0C\n\n").at(0, high).status(2, 0);
            }
        }
        fresh().stream("\33&l528C\33&a-450V\n").at(0, 79200).status(2, 0).stream("\n").at(0, 63000).status(2, 1);
        fresh().stream("\33&l528C\33&a-450v+.1V\n").at(0, 63000).status(2, 1);
    }

    /** ".. or with SKIP above TOP + LENGTH, eject" */
    private static void lineFeedWithSkip() {
        // TOP 3600 and LENGTH 72000
        fresh().stream("\33&l1L\33&a7080V\n").at(0, 75600).status(2, 0).stream("\n").at(0, 4500).status(2, 1);
        fresh().stream("\33&l1L\33&a7080.1V\n").at(0, 4500).status(2, 1);
        fresh().stream("\33&l1l0L\33&a7080.1V\n").at(0, 75601).status(2, 0);
        fresh().stream("\33&l1l1F\n").at(0, 4500).status(2, 1);
        fresh().stream("\33&l1l1F\33&a0V\n").at(0, 4800).status(2, 0).stream("\n").at(0, 4500).status(2, 1);
        fresh().stream("\33&l1l0F\33&a0V\n").at(0, 4500).status(2, 1);
        fresh().stream("\33&l1l0f0C\33&a0V\n").at(0, 3600).status(2, 0).stream("\33&a.1V\n").at(0, 3600).status(2, 1);
    }

    /** "=: as a line feed, with V / 2 in place of V" */
    private static void halfALine() {
        fresh().stream("\33*p9999y-25Y\33=").at(0, 79200).status(2, 0).stream("\33=").at(0, 4500).status(2, 1);
        fresh().stream("\33*p9999y\33&a-59.9V\33=").at(0, 4500).status(2, 1);
        fresh().stream("\33&l1L\33&a7140V\33=").at(0, 75600).status(2, 0);
        fresh().stream("\33&l1L\33&a7140.1V\33=").at(0, 4500).status(2, 1);
        // 151 / 2 is 75; a carriage return does not come with it
        fresh().stream("\33&l1.0067C\33=").at(0, 4575);
        fresh().stream("\33&k3GA\33=").at(720, 5100);
    }

    /** "Others do nothing." */
    private static void otherControlCodes() {
        for (int b = 0; b < 32; b++) {
            if ((b < 8 || b > 15 || b == 11) && b != 27) {
                fresh().stream("A\n" + Tester.text(b)).at(720, 5700).status(11, 0).status(2, 0).status(3, 0);
            }
        }
    }

    /** "& l X: COPIES is n, but 1 .. 99" */
    private static void copies1To99() {
        String[][] copies = {{"-5", "1"}, {"0", "1"}, {"1", "1"}, {"2", "2"}, {"39", "39"}, {"40", "40"}, {"2.9", "2"}};
        for (String[] c : copies) {
            fresh().stream("\33&l5x" + c[0] + "X\f").status(2, Integer.parseInt(c[1])).status(3, 0);
        }
        for (String c : new String[] {"41", "98", "99", "100", "101", "32767"}) {
            fresh().stream("\33&l" + c + "X\f").status(2, 40).status(3, 20);
        }
    }

    /** "& l C: V = 150 * v / 10000, if that is at most HEIGHT" */
    private static void lineStepAtMostHeight() {
        for (int[] s : SIZES) {
            int high = s[2];
            int whole = high / 150;
            String page = "\33&l" + s[0] + "A";
            String at = whole + "." + (10000 + high % 150 * 10000 / 150 + (high % 150 == 0 ? 0 : 1) + "").substring(1);
            String above = whole + "." + (10000 + (high % 150 + 1) * 10000 / 150 + 1 + "").substring(1);
            fresh().stream(page + "\33&l" + at + "C\33&a0v-360V\n").at(0, high).status(2, 0);
            fresh().stream(page + "\33&l" + above + "C\n").at(0, 5700).status(2, 0);
        }
        // with DEFAULTS of another page the step stays
        fresh().stream("\33&l6a816C\33&l1A\n").at(0, 75600).status(2, 1);
        Refused.nothing("\33&l32767.9999C");
        Refused.nothing("\33&l400C");
        Refused.nothing("\33&l348.0067C");
        Refused.something("\33&l348C");
        fresh().stream("\33&l.0066C\33&a+1R").at(0, 4500).stream("\33&l.0067C\33&a+1R").at(0, 4501);
    }

    /** "& l D: if n is 1, 2, 3, 4, 6, 8, 12, 16, 24 or 48, V = 7200 / n" */
    private static void linesAnInch() {
        for (int n = 0; n <= 60; n++) {
            boolean is = n == 1 || n == 2 || n == 3 || n == 4 || n == 6 || n == 8 || n == 12 || n == 16 || n == 24 || n == 48;
            fresh().stream("\33&l9c" + n + "D\33&a+1R").at(0, 4500 + (is ? 7200 / n : 1350));
        }
        for (String n : new String[] {"0", "5", "7", "9", "13", "47", "49", "32767", "-6"}) {
            Refused.nothing("\33&l" + n + "D");
        }
    }

    /** "& l E: if n * V is not above HEIGHT: TOP is that" */
    private static void topNotAboveHeight() {
        fresh().stream("\33&l66E\33&a0V").at(0, 79200).stream("\33&l65E\33&a0V").at(0, 78000);
        fresh().stream("\33&l65e67E\33&a0V").at(0, 78000);
        fresh().stream("\33&l0E\33&a0V").at(0, 0);
        fresh().stream("\33&l1a528c1E\33&a0V").at(0, 1200);
        fresh().stream("\33&l.0067c32767E\33&a0V").at(0, 32767);
        // 32767 lines of a page's height do not turn about into a small number
        for (String n : new String[] {"32767", "27060", "54", "1000"}) {
            fresh().stream("\33&l528c" + n + "E\33&a0V").at(0, 3600);
        }
        Refused.nothing("\33&l70E");
        Refused.nothing("\33&l32767E");
        Refused.something("\33&l69E");
    }

    /** "LENGTH is HEIGHT - TOP - 3600, at least 0" */
    private static void lengthAtLeast0() {
        // TOP 75000, LENGTH 600: a line of 600 fits behind the top, and no more
        fresh().stream("\33&l4c125e1L\33&a0V\n").at(0, 75600).status(2, 0).stream("\n").status(2, 1);
        fresh().stream("\33&l4c126e1L\33&a0V\n").at(0, 76050).status(2, 1);
        // TOP and LENGTH together are 75600, wherever the top is
        for (int top = 0; top <= 120; top += 30) {
            int v = (75000 - top * 600) / 10;
            fresh().stream("\33&l4c" + top + "e1L\33&a" + v + "V\n").at(0, 75600).status(2, 0);
            fresh().stream("\33&l4c" + top + "e1L\33&a" + v + ".1V\n").status(2, 1);
        }
        // TOP 75600 and more: no text at all
        for (int top = 126; top <= 132; top++) {
            fresh().stream("\33&l4c" + top + "e1L\33&a0V\n").status(2, 1).stream("\33&l0C\33&a0V\n").at(0, top * 600).status(2, 1);
            // not even a line of one unit
            fresh().stream("\33&l4c" + top + "e1l.0067C\33&a0V\n").at(0, top * 600).status(2, 1);
        }
    }

    /** "& l F: if TOP + n * V is not above HEIGHT, LENGTH is n * V" */
    private static void textLength() {
        // TOP 3600 and 63 lines are the height; the last line begins 1200 above it
        fresh().stream("\33&l63f1L\33&a7440V\n").at(0, 79200).status(2, 0);
        fresh().stream("\33&l62f1L\33&a7320V\n").at(0, 78000).status(2, 0);
        fresh().stream("\33&l62f1L\33&a7320.1V\n").status(2, 1);
        fresh().stream("\33&l62f64f1L\33&a7320V\n").at(0, 78000).status(2, 0).stream("\n").status(2, 1);
        fresh().stream("\33&l62f64f1L\33&a7320.1V\n").status(2, 1);
        for (String n : new String[] {"32767", "27060", "54", "2"}) {
            fresh().stream("\33&l10f528c" + n + "f8c1L\33&a1080V\n").at(0, 15600).status(2, 0).stream("\n").status(2, 1);
        }
        Refused.nothing("\33&l67F");
        Refused.something("\33&l66F");
    }

    /** "& l L: SKIP if n is 1, not if 0" */
    private static void skip() {
        String low = "\33&a7080.1V\n";
        fresh().stream("\33&l1L" + low).status(2, 1);
        fresh().stream("\33&l1l0L" + low).status(2, 0);
        for (String n : new String[] {"2", "3", "256", "32767"}) {
            fresh().stream("\33&l1l" + n + "L" + low).status(2, 1);
            fresh().stream("\33&l" + n + "L" + low).status(2, 0);
            Refused.nothing("\33&l" + n + "L");
        }
    }

    /** "& k G: if n is 0 .. 3, the LINE END" */
    private static void lineEnd0To3() {
        for (int n = 0; n < 8; n++) {
            int end = n <= 3 ? n : 3;
            fresh().stream("\33&k3g" + n + "GA\n").at(end >= 2 ? 0 : 720, 5700);
            fresh().stream("\33&k3g" + n + "GA\r").at(0, end % 2 == 1 ? 5700 : 4500);
            fresh().stream("\33&k3g" + n + "GA\f").at(end >= 2 ? 0 : 720, 4500).status(2, 1);
        }
        for (String n : new String[] {"4", "5", "259", "32767"}) {
            Refused.nothing("\33&k" + n + "G");
        }
    }

    /** "& a L: if n * H is less than RIGHT, LEFT is that, and X is LEFT if it is less (nothing otherwise)" */
    private static void leftLessThanRight() {
        fresh().stream("\33&a79L").at(56880, 4500).stream("\33&a0C\r").at(56880, 4500);
        fresh().stream("\33&a80L").at(0, 4500).stream("\33&a5C\r").at(0, 4500);
        fresh().stream("\33&a30M\33&a30L").at(21600, 4500).stream("\33&a0C\r").at(21600, 4500);
        fresh().stream("\33&a30M\33&a31L").at(0, 4500).stream("\33&a5C\r").at(0, 4500);
        // a product of 32767 steps does not turn about
        for (String n : new String[] {"32767", "2185", "1093"}) {
            fresh().stream("\33&k32767.9999H\33&a" + n + "L").at(0, 4500).stream("\33&a5760H\r").at(0, 4500);
        }
        // X stays where it is not less
        fresh().stream("\33&a10c10L").at(7200, 4500);
        fresh().stream("\33&a720.1h10L").at(7201, 4500);
        fresh().stream("\33&a719.9h10L").at(7200, 4500);
        fresh().stream("\33&a10l0L").at(7200, 4500).stream("\r").at(0, 4500);
        Refused.nothing("\33&a61L");
        Refused.nothing("\33&a32767L");
        Refused.something("\33&a59L");
        // a step of 0 makes a LEFT of 0, whatever n is
        fresh().stream("\33&a10L\33&k0H\33&a32767L\r").at(0, 4500);
    }

    /** "& a M: if (n + 1) * H is above LEFT, RIGHT is that, but at most WIDTH, and X is RIGHT if it is above that (nothing otherwise)" */
    private static void rightAboveLeft() {
        fresh().stream("\33&a10L\33&a50c10M").at(7920, 4500).stream("A").at(7920, 4500).stream("\33&a10CA").at(7920, 4500).status(3, 0);
        fresh().stream("\33&a10L\33&a50c9M").at(36000, 4500).stream("A").at(36720, 4500);
        fresh().stream("\33&a0M").at(0, 4500).stream("A").at(720, 4500).stream("A").at(720, 4500);
        fresh().stream("\33&k0H\33&a5M\33&k12h\33&a79CA").at(57600, 4500);
        // at most WIDTH: 80 columns are 57600
        for (String n : new String[] {"79", "80", "32767"}) {
            fresh().stream("\33&a5m" + n + "M\33&a79CA").at(57600, 4500).stream("\33E").status(2, 1);
            fresh().stream("\33&a5m" + n + "M\33&a79.01CA").at(56887, 4500).stream("\33E").status(2, 0);
        }
        fresh().stream("\33&a78M\33&a79CA").at(56880, 4500).stream("\33E").status(2, 0);
        // 32768 steps do not turn about into something small, or below 0
        for (String n : new String[] {"32767", "2184", "1092"}) {
            fresh().stream("\33&k32767.9999H\33&a" + n + "M\33&k12H\33&a79CA").at(57600, 4500);
        }
        // X is RIGHT if it is above that
        fresh().stream("\33&a11c10M").at(7920, 4500);
        fresh().stream("\33&a792.1h10M").at(7920, 4500);
        fresh().stream("\33&a791.9h10M").at(7919, 4500);
        Refused.nothing("\33&a3M");
        Refused.nothing("\33&a0M");
        Refused.something("\33&a4M");
    }

    /** "9: LEFT is 0, RIGHT is WIDTH": X stays where it is */
    private static void clearedMargins() {
        fresh().stream("\33&a10l20M\0339").at(7200, 4500).stream("\r").at(0, 4500).stream("\33&a79CAA").at(57600, 4500);
        fresh().stream("\33&l1O\33&a10l20M\0339\r").at(0, 4500).stream("\33&a105CAA").at(76320, 4500).stream("\33E").status(2, 1);
    }

    /** "& s C: WRAP if n is 0, not if 1" */
    private static void wrapIf0() {
        fresh().stream("\33&s0C\33&a80CA").at(720, 5700);
        fresh().stream("\33&s0c1C\33&a80CA").at(57600, 4500);
        for (String n : new String[] {"2", "3", "256", "257", "32767"}) {
            fresh().stream("\33&s0c" + n + "C\33&a80CA").at(720, 5700);
            fresh().stream("\33&s1c" + n + "C\33&a80CA").at(57600, 4500);
            Refused.nothing("\33&s" + n + "C");
        }
    }

    /** "a STACK of at most 20 places"; "n 0: X, Y go on the STACK, if it has fewer than 20" */
    private static void stackOf20() {
        for (int pushes = 18; pushes <= 23; pushes++) {
            StringBuilder s = new StringBuilder();
            for (int i = 1; i <= pushes; i++) {
                s.append("\33&a").append(i).append("c").append(i).append("R\33&f0S");
            }
            Tester t = fresh().stream(s.toString()).at(pushes * 720, 4500 + pushes * 1200);
            for (int i = Math.min(20, pushes); i >= 1; i--) {
                t.stream("\33&a40c40R\33&f1S").at(i * 720, 4500 + i * 1200);
            }
            t.stream("\33&a40c40R\33&f1S").at(28800, 4500 + 48000);
            // and it has room again
            t.stream("\33&f0S\33&a0c0R\33&f1S").at(28800, 4500 + 48000);
        }
        Refused.nothing(Refused.SETUP + "\33&f" + "0s".repeat(17) + "0S", "\33&f0S");
        for (String n : new String[] {"2", "3", "256", "32767"}) {
            Refused.nothing("\33&f" + n + "S");
        }
    }

    /** "1: they are taken from it, if it has any" */
    private static void nothingOnTheStack() {
        fresh().stream("\33&a5c5R\33&f1S").at(3600, 10500);
        fresh().stream("\33&a5c5R\33&f0s1s\33&a7c7R\33&f1S").at(5040, 12900);
        Refused.nothing(Refused.SETUP + "\33&f1s1S\33&a3c3R", "\33&f1S");
    }

    /** The six commands that set or move the cursor, told and SIGNED */
    private static void cursorMoves() {
        String at = "\33&a10c10R";
        String[][] moves = {{"\33&a", "C", "720", "7200", "0"}, {"\33&a", "H", "10", "7200", "0"}, {"\33*p", "X", "24", "7200", "0"}};
        for (String[] m : moves) {
            int unit = Integer.parseInt(m[2]);
            fresh().stream(at + m[0] + "3" + m[1]).at(3 * unit, 16500);
            fresh().stream(at + m[0] + "+3" + m[1]).at(7200 + 3 * unit, 16500);
            fresh().stream(at + m[0] + "-3" + m[1]).at(7200 - 3 * unit, 16500);
            fresh().stream(at + m[0] + "-2.5" + m[1]).at(7200 - 5 * unit / 2, 16500);
            fresh().stream(at + m[0] + "32767" + m[1]).at(57600, 16500);
            fresh().stream(at + m[0] + "+32767" + m[1]).at(57600, 16500);
            fresh().stream(at + m[0] + "-32767" + m[1]).at(0, 16500);
            // quotients are rounded towards 0
            fresh().stream(at + m[0] + "-.0001" + m[1]).at(7200 - unit / 10000, 16500);
            fresh().stream(at + m[0] + "-.1999" + m[1]).at(7200 - 1999 * unit / 10000, 16500);
        }
        Object[][] downs = {{"\33&a", "R", 1200, 4500}, {"\33&a", "V", 10, 3600}, {"\33*p", "Y", 24, 3600}};
        for (Object[] m : downs) {
            String end = (String) m[1];
            int unit = (Integer) m[2];
            int from = (Integer) m[3];
            fresh().stream(at + m[0] + "3" + end).at(7200, from + 3 * unit);
            fresh().stream(at + m[0] + "+3" + end).at(7200, 16500 + 3 * unit);
            fresh().stream(at + m[0] + "-3" + end).at(7200, 16500 - 3 * unit);
            fresh().stream(at + m[0] + "32767" + end).at(7200, 79200);
            fresh().stream(at + m[0] + "+32767" + end).at(7200, 79200);
            fresh().stream(at + m[0] + "-32767" + end).at(7200, 0);
            fresh().stream(at + m[0] + "-.1999" + end).at(7200, 16500 - 1999 * unit / 10000);
        }
        // products of longs: 32767.9999 of the largest step
        fresh().stream("\33&k32767.9999H\33&a32767.9999C").at(57600, 4500).stream("\33&a-32767.9999C").at(0, 4500);
        fresh().stream("\33&l528C\33&a32767.9999R").at(0, 79200).stream("\33&a-32767.9999R").at(0, 0);
    }

    /** "A page's DEFAULTS are TOP 3600, LENGTH = HEIGHT - 7200, LEFT 0, RIGHT = WIDTH, X = 0, Y = HOME." */
    private static void defaults() {
        for (int[] s : SIZES) {
            for (int o = 0; o < 4; o++) {
                int wide = o % 2 == 0 ? s[1] - 3600 : s[2] - 2880;
                int high = o % 2 == 0 ? s[2] : s[1];
                String page = "\33&l8d5e5f1L\33&a5l9M\33&l" + s[0] + "a" + o + "O";
                Tester t = fresh().stream(page).at(0, 4275).stream("\33&a0V").at(0, 3600);
                t.stream("\33&a32767H\r").at(0, 3600).stream("\t".repeat(30)).at(wide, 3600);
                // LENGTH: the last line that SKIP lets be
                int last = high - 3600 - 3600 - 900;
                t.stream("\33&a" + last / 10 + "." + last % 10 + "V\n").at(wide, high - 3600).status(2, 0);
                t.stream("\33&a-90v+.1V\n").at(wide, 4275).status(2, 1);
            }
        }
    }

    /** "At first, and behind a RESET: SIZE 2, ORIENTATION 0, H 720, V 1200, DEFAULTS, neither WRAP nor SKIP, LINE END 0, COPIES 1, FONT 0, an empty STACK." */
    private static void behindAReset() {
        String[] states = {"\33&l1A", "\33&l1O", "\33&l3O", "\33&k9H", "\33&l5C", "\33&l3E", "\33&l9F", "\33&l20f1L", "\33&a9L", "\33&a40M", "\33&s0C", "\33&l1L", "\33&k1G",
            "\33&k2G", "\33&k3G", "\33&l7X", "\16", "\33&f0S", "\33&a5c5R", "\33&a5c5R\33&f0s0S", "\33*p9x9Y", "\33&l26a2o4x6c2e30f1L\33&k7h3G\33&a3l50M\33&s0C\16\33&f0S"};
        for (String state : states) {
            Refused.same("", state + "\33E", "");
            // and of a job behind another one
            Tester t = fresh().stream(state);
            t.conclude();
            t.stream("\n\33&l2F\33&s1C" + "A".repeat(90)).at(57600, 5700).stream("\r").at(0, 5700).stream("\33&f1S").at(0, 5700).stream("\33&a+1c+1R").at(720, 6900);
            t.stream("\t").at(5760, 6900).stream("\33&a0V").at(5760, 3600).stream("\f").status(2, 1).at(5760, 4500).status(11, 0);
        }
    }
}
