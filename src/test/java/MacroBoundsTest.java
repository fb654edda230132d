/** The bounds of macros, sentence by sentence. */
public final class MacroBoundsTest {
    private static final String ENDS = "\33&f1X";

    public static void main(String[] args) {
        ids0To32767();
        upToTheNextRowOfBytes();
        notOfAnotherMacro();
        goesAtOnce();
        aSecondN0BeginsAnew();
        noneAsLongAsItIsRead();
        roomFor32();
        roomFor16384Bytes();
        roomBesideTheOthersByThen();
        doneIfThereIsOne();
        calledGivesBack();
        leftAndRightAtMostWidth();
        ifTheJobHasNotFailedInIt();
        whatGoes();
        anyOtherNSaysNothing();
        atTheEndOfTheSequence();
        eightAtMost();
        theBytesItHasThen();
        aThirdOneIsPassedOver();
        n0WithinAMacro();
        moreThan65536Bytes();
        notWhatComesOfMacros();
        notPermanentOnesGo();
        Tester.end();
    }

    private static Tester fresh() {
        return new Tester(75, 16);
    }

    private static String macro(int id, String bytes) {
        return "\33&f" + id + "y0X" + bytes + ENDS;
    }

    /** "MACROS have an ID 0 .. 32767"; "& f Y: the macro's ID at hand is n" */
    private static void ids0To32767() {
        for (int id : new int[] {0, 1, 32766, 32767}) {
            fresh().stream(macro(id, "AB") + "\33&f" + (id == 0 ? 1 : 0) + "y2X").at(0, 4500).stream("\33&f" + id + "y2X").at(1440, 4500);
        }
        // every bit of it counts
        for (int bit = 1; bit <= 16384; bit *= 2) {
            int other = 21845 ^ bit;
            fresh().stream(macro(21845, "A") + macro(other, "BB") + "\33&f21845y2X").status(16, 2).at(720, 4500).stream("\33&f" + other + "y2X").at(2160, 4500);
        }
        fresh().stream(macro(32767, "AB") + "\33&f5y32768y2X").at(1440, 4500);
        fresh().stream("\33&f0XAB" + ENDS + "\33&f7y-7y2X").at(1440, 4500);
        fresh().stream("\33&f0XAB" + ENDS + "\33&f2X").at(1440, 4500);
    }

    /** "up to the next row of bytes 27, 38, 102, 49, 88, is nothing but the bytes of the macro ..; these five bytes are not of it" */
    private static void upToTheNextRowOfBytes() {
        String[] within = {"", "A", "\33", "\33&", "\33&f", "\33&f1", "\33&f1x", "\33&f1Y", "\33&f01X", "\33&f+1X", "\33&f 1X", "\33\33&f1", "\33&\33&f", "\33&f\33&f1\33", "\33&f11X",
            "\33E\f\n\33&l1O", "\33&f0X", "\33&f6X\33&f2X", "\0\377\33\0", "1X", "f1X", "&f1X", "A&f1X", "\33A&f1X", "\33&f\33A&f1X", "\33&f1.X", "\33&F1X"};
        for (String w : within) {
            fresh().stream("\33&f9y0X" + w).status(18, 1).status(16, 0).status(17, 0).status(2, 0).at(0, 4500).stream(ENDS).status(18, 0).status(16, 1).status(17, w.length());
            // it goes on in the next streams
            Tester t = fresh().stream("\33&f9y0X");
            for (char c : (w + ENDS).toCharArray()) {
                t.status(18, 1).stream("" + c);
            }
            t.status(18, 0).status(16, 1).status(17, w.length()).stream("A").at(720, 4500);
        }
    }

    /** A row of bytes that is begun in one job, or for one macro, does not end another one */
    private static void notOfAnotherMacro() {
        for (int begun = 1; begun < 5; begun++) {
            Tester t = fresh().stream("\33&f9y0XAAA" + ENDS.substring(0, begun));
            t.conclude();
            t.stream("\33&f9y0X" + ENDS.substring(begun)).status(18, 1).stream(ENDS).status(18, 0).status(16, 1).status(17, 5 - begun);
        }
    }

    /** "in place of one that was there, which goes at once" */
    private static void goesAtOnce() {
        Tester t = fresh().stream(macro(5, "AAA") + macro(6, "BB")).status(16, 2).status(17, 5).stream("\33&f5y0X").status(16, 1).status(17, 2).stream("CCCC");
        t.status(16, 1).status(17, 2).stream(ENDS).status(16, 2).status(17, 6).stream("\33&f2X").at(2880, 4500);
        t = fresh().stream(macro(5, "AAA") + "\33&f10X\33&f0X");
        t.conclude();
        t.status(16, 0).status(18, 0);
    }

    /** "(a second n 0 of the same sequence begins anew)" */
    private static void aSecondN0BeginsAnew() {
        fresh().stream(macro(1, "A") + macro(2, "BB") + "\33&f1y0x2y0x3y0X").status(18, 1).status(16, 0).stream("CCC" + ENDS).status(16, 1).status(17, 3)
                .stream("\33&f3y2X").at(2160, 4500);
        fresh().stream("\33&f1y0x0XA" + ENDS).status(16, 1).status(17, 1);
    }

    /** "It is none as long as it is read": neither DONE nor kept */
    private static void noneAsLongAsItIsRead() {
        fresh().stream(macro(1, "AA") + "\33&f0x2x3x10XB" + ENDS).status(16, 1).status(17, 1).at(0, 4500).stream("\33&f2X").at(720, 4500);
        Tester t = fresh().stream("\33&f1y0x10XB" + ENDS);
        t.conclude();
        t.status(16, 0);
    }

    /** "there is room for 32 of them" */
    private static void roomFor32() {
        StringBuilder s = new StringBuilder();
        for (int id = 1; id <= 31; id++) {
            s.append(macro(id, ""));
        }
        fresh().stream(s.toString()).status(16, 31).stream(macro(40, "A")).status(16, 32).status(17, 1).stream(macro(41, "A")).status(16, 32).status(17, 1).status(18, 0)
                .stream("\33&f41y2X").at(0, 4500).stream(macro(40, "BB")).status(16, 32).status(17, 2).stream("\33&f7y8X").status(16, 31)
                .stream(macro(41, "CCC")).status(16, 32).status(17, 5);
        s.append(macro(40, "A"));
        Refused.nothing(s + "\33&f50Y", "\33&f0XAAA" + ENDS);
    }

    /** "and 16384 bytes" (512 calls do not come to that; what is answered here is the class's own) */
    private static void roomFor16384Bytes() {
        for (int n = 16383; n <= 16386; n++) {
            boolean room = n <= 16384;
            Tester t = Tester.beyond(75, 16).stream(macro(1, "\0".repeat(n - 1) + "A"));
            t.status(16, room ? 1 : 0).status(17, room ? n : 0).status(18, 0).stream("\33&f2X").at(room ? 720 : 0, 4500);
        }
        Tester t = Tester.beyond(75, 16).stream(macro(1, "\0".repeat(16000)) + macro(2, "\0".repeat(384))).status(16, 2).status(17, 16384);
        t.stream(macro(3, "")).status(16, 3).stream(macro(4, "A")).status(16, 3).stream(macro(2, "\0".repeat(385))).status(16, 2).status(17, 16000);
        t.stream(macro(2, "\0".repeat(384))).status(16, 3).status(17, 16384);
        // far more than there can be room for
        t = Tester.beyond(75, 16).stream(macro(1, "\33&f1".repeat(8000)) + "A").status(16, 0).status(18, 0).at(720, 4500);
    }

    /** "when it ends, room is asked for (of 32, and for its bytes beside those of the others by then): if there is none, it is none" */
    private static void roomBesideTheOthersByThen() {
        StringBuilder s = new StringBuilder();
        for (int id = 1; id <= 32; id++) {
            s.append(macro(id, "A"));
        }
        // the X's behind the n 0 make room
        fresh().stream(s + "\33&f40y0x3y8XBB" + ENDS).status(16, 32).status(17, 33).stream("\33&f40y2X").at(1440, 4500);
        fresh().stream(s + "\33&f40y0XBB" + ENDS).status(16, 32).status(17, 32);
        Tester t = Tester.beyond(75, 16).stream(macro(1, "\0".repeat(16384)) + "\33&f2y0x1y8X" + "\0".repeat(16384) + ENDS).status(16, 1).status(17, 16384);
        t.stream("\33&f3y0X" + "A" + ENDS).status(16, 1);
    }

    /** "2: it is DONE"; of an ID that has none it says nothing */
    private static void doneIfThereIsOne() {
        fresh().stream(macro(1, "A") + "\33&f2y2x3x8x9x10X").at(0, 4500).status(16, 1).status(19, 0);
        for (int n : new int[] {2, 3, 8, 9, 10}) {
            Refused.nothing(Refused.SETUP + "\33&f77Y", "\33&f" + n + "X");
        }
        fresh().stream(macro(1, "") + "\33&f2x3X").at(0, 4500).status(19, 0);
        fresh().stream(macro(1, "AB\n") + "\33&f2X").at(1440, 5700).status(19, 3);
    }

    /** "3: it is CALLED: likewise, but the state without SIZE, ORIENTATION and COPIES is kept before and is again so behind it" */
    private static void calledGivesBack() {
        String[] changes = {"\33&a5l9M", "\33&k5H", "\33&k3G", "\33&l6C", "\33&l2e3F", "\33&l1L", "\33&s1C", "\16", "\33&f0S", "\33&f1s1S", "\33*p9x9Y", "  \n", "\33&l8D", "\0339",
            "\33&f" + "0s".repeat(30) + "S", "\33&f1s1S\33&a1c1R\33&f0S\33&a2c2R\33&f0S", "\33&s0C", "\33&l0L", "\33&k0G", "\17"};
        // from three states, so that each truth and number is once as it is at first, and once not
        String[] states = {"\33&l0L\33&k2G\16", "\33&s1C\33&k3G"};
        for (String c : changes) {
            for (String state : states) {
                Refused.same(Refused.SETUP + state, macro(1, c) + "\33&f3x8x5Y", macro(1, "\0".repeat(c.length())) + "\33&f2x8x5Y");
            }
            // as one of as many bytes that do nothing and is DONE
            Refused.same(Refused.SETUP, macro(1, c) + "\33&f3x8x5Y", macro(1, "\0".repeat(c.length())) + "\33&f2x8x5Y");
            // within another one, too
            Refused.same(Refused.SETUP, macro(1, c) + macro(2, "\33&f1y3X") + "\33&f2x8x1y8x5Y",
                    macro(1, "\0".repeat(c.length())) + macro(2, "\33&f1y2X") + "\33&f2x8x1y8x5Y");
        }
        String pages = macro(1, "\33&l6a1o3X");
        fresh().stream(pages + "\33&f3X").status(9, 6).status(10, 1).stream("\f").status(2, 3);
        // what is no state of the page stays, too
        fresh().stream(macro(1, "\33*c5d66E\33*c9a9b\33*rA\33&f7Y") + "\33&f3X").status(20, 1).stream("\33*cP").status(4, 1)
                .stream("\33)s14W" + Tester.plainFont(7, 0).substring(11)).status(14, 5);
        // DONE, nothing is given back
        fresh().stream(macro(1, "\33&a5L\16\33&l8D\33*p9Y") + "\33&f2X").at(3600, 3816).status(11, 1).stream("\n").at(3600, 4716);
    }

    /** "(LEFT and RIGHT at most WIDTH, X and Y brought to the page; TOP and LENGTH as they were)" */
    private static void leftAndRightAtMostWidth() {
        // SIZE 6 is 75600 across, 1 is 48600; RIGHT was 72000
        String wide = "\33&l6A\33&a99M" + macro(1, "\33&l1A");
        fresh().stream(wide + "\33*p9999x9999Y\33&f3X").at(48600, 75600).stream("\33&a66.5CA").at(48600, 75600).stream("\33E").status(2, 1);
        fresh().stream(wide + "\33&f3X\33&a66.51CA").at(47887, 4500).stream("\33E").status(2, 0);
        // LEFT was 57600, so it is 48600, and there is no place for a character
        fresh().stream("\33&l6A\33&a99m80L" + macro(1, "\33&l1A") + "\33&f3X").at(48600, 4500).stream("\33&a0C\r").at(48600, 4500).stream("A").at(48600, 4500);
        fresh().stream("\33&l6A\33&a40m30L" + macro(1, "\33&l1A") + "\33&f3X").at(21600, 4500).stream("\33&a40CA").at(29520, 4500).stream("A").at(29520, 4500);
        // TOP stays above the page that is smaller: 105600 and LENGTH 13200
        fresh().stream("\33&l6a88E" + macro(1, "\33&l1A") + "\33&f3X\33&a0V").at(0, 75600).stream("\33&a0R").at(0, 75600).stream("\f").at(0, 75600);
        // LENGTH stays 13200 behind a TOP of 3600, for a page of 79200
        fresh().stream("\33&l11F\33&l1L" + macro(1, "\33&l3A") + "\33&f3X\33&a1200V\n").at(0, 16800).status(2, 0).stream("\n").at(0, 4500).status(2, 1);
    }

    /** "if the job has not FAILED in it" */
    private static void ifTheJobHasNotFailedInIt() {
        fresh().stream(macro(1, "\33&a9CA\16\f\17") + "\f".repeat(40) + "\33&f3X").status(3, 20).at(7200, 4500).status(11, 1);
        fresh().stream(macro(1, "\33&a9CA\16\f\17") + "\f".repeat(39) + "\33&f3X").status(3, 0).at(0, 4500).status(11, 0);
        // what is left of a macro does not come in the next job
        for (String way : new String[] {"2", "3"}) {
            Tester t = fresh().stream(macro(1, "\f\16BBB\f") + macro(2, "\33&f1y" + way + "X\16B") + "\f".repeat(40) + "\33&f2y" + way + "x" + way + "X").status(3, 20);
            t.conclude();
            t.stream("A").at(720, 4500).status(11, 0).status(2, 0).status(19, 0).status(16, 0).stream(macro(1, "AA") + "\33&f" + way + "X").at(way.equals("2") ? 2160 : 720, 4500);
        }
        // nor does what other X's of that sequence said
        for (int act : new int[] {2, 6, 8, 9}) {
            Tester t = fresh().stream(macro(1, "\f") + macro(2, "BB") + "\33&f10X" + "\f".repeat(40) + "\33&f1y2x2y" + act + "x" + act + "X").status(3, 20).status(16, 2);
            t.conclude();
            t.status(16, 1).stream("").status(16, 1).at(0, 4500).stream("A").status(16, 1).at(720, 4500);
            t.conclude();
            t.status(16, 1);
        }
        // a macro that is being read then is so up to the end of the job
        Tester reads = fresh().stream(macro(1, "\f") + "\f".repeat(40) + "\33&f7y0x1y2Xab").status(3, 20).status(18, 1).status(16, 1);
        reads.conclude();
        reads.status(18, 0).status(16, 0).stream("A\33&f1X").status(18, 0).status(16, 0).at(720, 4500);
        // nor is it by one that is outside of the one in which it failed
        fresh().stream(macro(1, "\33&a9C\33&f2y3X") + macro(2, "\16A\f") + "\f".repeat(40) + "\33&f1y3X").status(3, 20).at(7200, 4500).status(11, 1);
    }

    /** "6: all macros go; 7: all that are not PERMANENT; 8: it goes; 9: it is not PERMANENT; 10: it is" */
    private static void whatGoes() {
        String three = macro(1, "A") + "\33&f10X" + macro(2, "BB") + macro(3, "CCC");
        fresh().stream(three + "\33&f6X").status(16, 0).status(17, 0).stream("\33&f1y2X").at(0, 4500);
        fresh().stream(three + "\33&f7X").status(16, 1).status(17, 1).stream("\33&f1y2X").at(720, 4500);
        fresh().stream(three + "\33&f2y8X").status(16, 2).status(17, 4).stream("\33&f1y2x3y2X").at(2880, 4500);
        fresh().stream(three + "\33&f1y9x7X").status(16, 0);
        fresh().stream(three + "\33&f2y10x7X").status(16, 2).status(17, 3);
        fresh().stream(three + "\33&f1y8X").status(16, 2);
        otherMacrosStay();
        Refused.nothing(Refused.SETUP, "\33&f10X");
        Refused.nothing(Refused.SETUP, "\33&f6y9x5Y");
    }

    /** When a macro goes, the others keep their bytes, and whether they are PERMANENT */
    private static void otherMacrosStay() {
        String[] bytes = {"\33&a7C", "\33&a11CAB", "", "\33&a17C\n", "\33&a23CA\n\n"};
        int[][] at = {{7, 0}, {13, 0}, {0, 0}, {17, 1}, {24, 2}};
        for (int gone = 0; gone < 5; gone++) {
            for (int kept = 0; kept < 5; kept++) {
                StringBuilder s = new StringBuilder();
                for (int i = 0; i < 5; i++) {
                    s.append(macro(i + 1, bytes[i])).append(i == kept ? "\33&f10X" : "");
                }
                // it goes, or is read anew
                for (String way : new String[] {"8X", "0X" + ENDS}) {
                    String all = s + "\33&f" + (gone + 1) + "y" + way;
                    for (int i = 0; i < 5; i++) {
                        if (i != gone) {
                            fresh().stream(all + "\33&f" + (i + 1) + "y2X").at(720 * at[i][0], 4500 + 1200 * at[i][1]);
                        }
                    }
                    fresh().stream(all + "\33&f7X").status(16, kept == gone ? 0 : 1).status(17, kept == gone ? 0 : bytes[kept].length());
                }
            }
        }
    }

    private static void anyOtherNSaysNothing() {
        for (String n : new String[] {"1", "4", "5", "11", "12", "256", "258", "32767"}) {
            fresh().stream(macro(1, "A") + "\33&f" + n + "X").at(0, 4500).status(16, 1).status(18, 0).status(19, 0);
            Refused.nothing("\33&f" + n + "X");
        }
    }

    /** "What X says happens when the sequence in which it stands is at its end (behind the DATA of its last field, if it has some; if ESC ends it, ahead of that; if another byte does, behind it), one behind the other, with the ID that was at hand at the X" */
    private static void atTheEndOfTheSequence() {
        String a = macro(1, "A");
        fresh().stream(a + "\33&f2x").at(0, 4500).stream("0s").at(0, 4500).stream("5").at(0, 4500).stream("Z").at(720, 4500);
        fresh().stream(a + "\33&f2x3W").at(0, 4500).stream("\33\33").at(0, 4500).stream("\33").at(720, 4500).stream("B").at(1440, 4500);
        fresh().stream(a + "\33&f2x3w").stream("AAA").at(0, 4500).stream("Z").at(720, 4500);
        fresh().stream(a + "\33&f2x0W").at(720, 4500);
        fresh().stream(a + "\33&f2x\33").at(720, 4500).stream("=").at(720, 5100);
        fresh().stream(a + "\33&f2x\n").at(720, 4500).stream("\n").at(720, 5700);
        fresh().stream(a + "\33&f2x7_B").at(1440, 4500);
        // with the ID at hand at the X; the stack is as it is ahead of what they do
        fresh().stream(a + macro(2, "\n") + "\33&f1y2x2y2x1y3x9Y").at(720, 5700).stream("\33&f2X").at(720, 5700);
        fresh().stream(a + "\33&f2x0s\33&f1S").at(0, 4500);
    }

    /** "(eight at most, those with another n, which say nothing, too; more are passed over)" */
    private static void eightAtMost() {
        String a = macro(1, "A");
        for (int n = 6; n <= 12; n++) {
            fresh().stream(a + "\33&f" + "2x".repeat(n) + "Z").at(720 * Math.min(8, n), 4500);
            fresh().stream(a + "\33&f" + "2x".repeat(n - 1) + "2X").at(720 * Math.min(8, n), 4500);
            fresh().stream(a + "\33&f" + "5x".repeat(n) + "2X").at(n < 8 ? 720 : 0, 4500);
            fresh().stream(a + "\33&f" + "1x".repeat(n) + "2y9y8y0y1y2X").at(n < 8 ? 720 : 0, 4500);
            // anew in the next sequence
            fresh().stream(a + "\33&f" + "5x".repeat(n) + "Z\33&f2X").at(720, 4500);
        }
        // one that begins in a macro counts on behind it
        fresh().stream(macro(1, "A") + macro(2, "\33&f1y" + "2x".repeat(5)) + "\33&f2y2X" + "2x".repeat(5) + "Z").at(8 * 720, 4500);
    }

    /** "The bytes of one that is DONE or CALLED are those that it has then, whatever becomes of it on the way." */
    private static void theBytesItHasThen() {
        fresh().stream(macro(1, "A\33&f8XB") + "\33&f2X").at(1440, 4500).status(16, 0);
        fresh().stream(macro(1, "A\33&f6XB") + macro(2, "CC") + "\33&f1y3x2x2y2X").at(0, 4500).status(16, 0).status(19, 7);
        fresh().stream(macro(1, "\33&f2y8X\33&f3y8XAB") + macro(2, "CC") + macro(3, "\33&f1y2XDD") + "\33&f2X").at(4 * 720, 4500).status(16, 1).status(17, 16);
    }

    /** "A macro that is DONE or CALLED within one that is so is done, a third one within these is passed over" */
    private static void aThirdOneIsPassedOver() {
        String three = macro(1, "A\33&f2y2X") + macro(2, "BB\33&f3y2X") + macro(3, "CCCC\33&f1y2X");
        fresh().stream(three + "\33&f1y2X").at(3 * 720, 4500).status(19, 8 + 9);
        fresh().stream(three + "\33&f2y2X").at(6 * 720, 4500).status(19, 9 + 11);
        // it is passed over alone: what follows it is not
        fresh().stream(macro(1, "A\33&f2y2XA") + macro(2, "B\33&f3y2x3x6XB") + macro(3, "C") + "\33&f1y2X").at(4 * 720, 4500).status(16, 0);
        // one behind the other they are not within each other
        fresh().stream(macro(1, "\33&f3y2x3y2x2X") + macro(3, "C") + "\33&f1y2x2x2X").at(9 * 720, 4500);
        for (String way : new String[] {"2", "3"}) {
            fresh().stream(macro(1, "\33&f2y" + way + "X") + macro(2, "\33&f3y" + way + "X\16") + macro(3, "C\33*c9a9b0P") + "\33&f1y" + way + "X").status(4, 0).status(11, way.equals("2") ? 1 : 0);
        }
        // one without bytes, too
        fresh().stream(macro(1, "\33&f2y2XA") + macro(2, "\33&f3y2x3XA") + macro(3, "") + "\33&f1y2X").at(1440, 4500).status(19, 8 + 10);
        // a macro within itself
        fresh().stream(macro(1, "A\33&f1y2X") + "\33&f2X").at(1440, 4500).status(19, 16);
    }

    /** "an n 0 whose sequence ends within a macro is passed over" */
    private static void n0WithinAMacro() {
        fresh().stream(macro(1, "\33&f1y0XAB") + "\33&f2X").status(18, 0).status(16, 1).at(1440, 4500);
        fresh().stream(macro(1, "\33&f2y0x\33=AB") + macro(2, "CC") + "\33&f1y2X").status(18, 0).status(16, 2).at(1440, 5100);
        // one that begins in the stream and ends in a macro is, too; and one that ends behind it is not
        fresh().stream(macro(1, "0x_AB") + macro(2, "\33&f") + "\33&f2y2x1y2X").status(18, 0).at(1440, 4500);
        fresh().stream(macro(1, "\33&f2y0x") + "\33&f1y2X").status(18, 0).stream("Z").status(18, 1);
    }

    /** "and so is one that is to be DONE or CALLED when the macros of the job have come to more than 65536 bytes with it" */
    private static void moreThan65536Bytes() {
        String big = macro(1, "\0".repeat(8192));
        Tester t = fresh().stream(big + macro(2, "A") + macro(3, "") + "\33&f1y2x2x2x2x2x2x2x2X").status(19, 65536);
        t.stream("\33&f2y2X").at(0, 4500).status(19, 65536).stream("\33&f3X").at(0, 4500).stream("\33&f1y2X").status(19, 65536).stream("\33&f3y2X").status(19, 65536);
        t = fresh().stream(macro(1, "\0".repeat(8191)) + macro(2, "AAAA") + macro(3, "BBBBB") + macro(4, "C") + "\33&f1y2x2x2x2x2x2x2x2X").status(19, 65528);
        // eight bytes are left: 4, not 5, 4, and no more
        t.stream("\33&f2y2X").status(19, 65532).at(2880, 4500).stream("\33&f3y2x3X").status(19, 65532).at(2880, 4500).stream("\33&f2y2X").status(19, 65536).at(5760, 4500)
                .stream("\33&f4y2X").status(19, 65536).at(5760, 4500);
        t.conclude();
        t.status(19, 0).stream(macro(1, "A") + "\33&f2X").status(19, 1).at(720, 4500);
        // those within others count, too
        t = fresh().stream(macro(1, "\0".repeat(4000)) + macro(2, "\33&f1y" + "2x".repeat(8) + "Z") + "\33&f2y2x2X").status(19, 4000 * 16 + 2 * 22);
        t.stream("\33&f1y2X").status(19, 64044).stream("\33&f2y2X").status(19, 64066);
    }

    /** "what comes in the streams from then on (not what comes of macros that are DONE or CALLED)" */
    private static void notWhatComesOfMacros() {
        fresh().stream(macro(1, "AB") + "\33&f2y0x1y2x3x2X").status(18, 1).at(2880, 4500).stream("C" + ENDS).status(17, 3).status(16, 2);
        // nor does the row of bytes in a macro end it
        fresh().stream(macro(1, "A\33&f") + "\33&f2y0x1y2x").stream("Z").status(18, 1).stream("CC" + ENDS).status(16, 2).status(17, 6);
        fresh().stream(macro(1, "A\33&f1") + "\33&f2y0x1y2XX" + ENDS).status(18, 0).status(17, 6);
    }

    /** "fonts and macros that are not PERMANENT go" */
    private static void notPermanentOnesGo() {
        Tester t = fresh().stream(macro(1, "A") + macro(2, "BB") + "\33&f10X" + macro(3, "CCC") + macro(4, "DDDD") + "\33&f10X");
        t.conclude();
        t.status(16, 2).status(17, 6).stream("\33&f1y2x3y2X").at(0, 4500).stream("\33&f2y2x4y2X").at(6 * 720, 4500).stream("\33&f2y9X");
        t.conclude();
        t.status(16, 1).status(17, 4);
    }
}
