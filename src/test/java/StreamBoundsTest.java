/** The bounds by which a stream is parted, sentence by sentence: sequences, values, data. */
public final class StreamBoundsTest {
    public static void main(String[] args) {
        whatComesBehindEscape();
        theGroup();
        theEndOfAField();
        aByteThatEndsTheSequence();
        escapeWithin();
        aSecondEscape();
        goesOnInTheNextStream();
        theWholePartIsAtMost32767();
        theFirstFourDigits();
        eachPerhapsMissing();
        negativeAndSigned();
        asManyBytesAsTheWholePartSays();
        noneIfItIsNegative();
        theDataOfPX();
        theLongestData();
        onlyTheFirst4096Count();
        otherBytesAreCharacters();
        passedOverBehindAFault();
        othersArePassedOver();
        Tester.end();
    }

    private static Tester fresh() {
        return new Tester(75, 16);
    }

    private static String text(int... bytes) {
        return Tester.text(bytes);
    }

    /** "ESC and a byte 48 .. 126 is a SHORT sequence. ESC and a byte 33 .. 47, the FAMILY"; any other: "both are thrown away" */
    private static void whatComesBehindEscape() {
        for (int b = 0; b < 256; b++) {
            // the Q is a character behind what has ended; or it ends the sequence that has begun
            boolean family = b >= 33 && b <= 47;
            int q = family || b == 27 ? 0 : 720;
            fresh().stream(text(27, b) + "Q").at(q, b == '=' ? 5100 : 4500);
        }
        // of SHORT sequences all but E, 9 and = do nothing; and so do those that are none
        for (int b = 0; b < 256; b++) {
            boolean begins = b >= 33 && b <= 47 || b == 27;
            if (!begins && b != 'E' && b != '9' && b != '=' && (b < 50 || b > 120 || b % 11 == 0)) {
                Refused.nothing(Refused.SETUP, text(27, b));
            }
        }
    }

    /** "then, if it is one of 96 .. 126, the GROUP (otherwise GROUP is 0)" */
    private static void theGroup() {
        for (int b = 0; b < 256; b++) {
            boolean group = b >= 96 && b <= 126;
            boolean value = b >= '0' && b <= '9' || b == '+' || b == '-' || b == '.';
            // behind a group, or a value without one, 5C is a field; behind what ends the sequence it is text
            int want = b == 'a' ? 4320 : group || value ? 720 : b == 27 ? 1440 : 2160;
            fresh().stream(text(27, '&', b) + "5CA").at(want, 4500);
        }
        // 5X pins a font, if there is no group: so it tells a group from an END
        String fonts = Tester.plainFont(5, 0) + Tester.plainFont(6, 0);
        for (int b = 0; b < 256; b++) {
            boolean value = b >= '0' && b <= '9' || b == '+' || b == '-' || b == '.';
            fresh().stream(fonts + text(27, '(', b) + "5X").status(14, b == '0' || b == '+' ? 5 : 6);
            if (!value) {
                fresh().stream(fonts + text(27, '(', b) + "5x5X").status(14, 6);
            }
        }
        fresh().stream(fonts + "\33(5X").status(14, 5);
        // the group stays for all fields of a sequence, and is gone with it
        fresh().stream("\33&a1c1r2CA\33&5C").at(2160, 5700);
    }

    /** "the END is a byte 96 .. 126, after which .. another field follows, or 64 .. 94, which is the sequence's last one" */
    private static void theEndOfAField() {
        String has = "CHRVLMW";
        for (int b = 0; b < 256; b++) {
            boolean more = b >= 96 && b <= 126;
            boolean last = b >= 64 && b <= 94;
            boolean value = b >= '0' && b <= '9' || b == '.';
            char upper = (char) (more ? b - 32 : b);
            Tester t = fresh().stream("\33&a5" + text(b) + "7CA");
            if ((more || last) && has.indexOf(upper) < 0) {
                t.at(more ? 5760 : 2160, 4500);
            } else if (!more && !last && !value) {
                // the 7 stands behind what was ended: as a character, or as a SHORT sequence
                t.at(b == 27 ? 1440 : 2160, 4500);
            }
        }
        // a field told in small letters is the one told in capital ones
        fresh().stream("\33&a5c3r10h20V").at(100, 3800);
        fresh().stream("\33&a5C\33&a3R\33&a10H\33&a20V").at(100, 3800);
        Refused.nothing("\33&a5@");
        Refused.nothing("\33&a5^");
        Refused.nothing("\33&a5`5~5Z");
    }

    /** "Any other byte within ends the sequence, is thrown away, and what was in the field that it ends is none; the fields before it have been done" */
    private static void aByteThatEndsTheSequence() {
        for (int b : new int[] {0, 10, 12, 13, 26, 28, 31, 32, 33, 42, 44, 47, 58, 63, 95, 127, 128, 255}) {
            fresh().stream("\33&a5c3" + text(b)).at(3600, 4500).stream("R").at(4320, 4500);
            fresh().stream("\33&a" + text(b) + "5C").at(1440, 4500);
            fresh().stream("\33&a5c+" + text(b) + "A").at(4320, 4500);
            fresh().stream("\33&a5c1." + text(b) + "A").at(4320, 4500);
            Refused.nothing("\33&a5" + text(b));
        }
        // a sign or a point where none can stand is such a byte, too
        for (String s : new String[] {"1+", "1-", "+-", "1.1.", "..", "1.+", ".-"}) {
            fresh().stream("\33&a5c" + s + "CA").at(3600 + 1440, 4500);
        }
    }

    /** "ESC within ends it, too, and begins another one" */
    private static void escapeWithin() {
        for (String s : new String[] {"\33&", "\33&a", "\33&a5", "\33&a+", "\33&a5.", "\33&a5c", "\33&a5c3", "\33*c"}) {
            fresh().stream(s + "\33&a7CA").at(5760, 4500);
            fresh().stream("A" + s + "\33EB").at(720, 4500).status(2, 1);
            fresh().stream(s + "\33").stream("\33&a7CA").at(5760, 4500);
        }
    }

    /** "but a second ESC begins anew" */
    private static void aSecondEscape() {
        for (int n = 2; n < 6; n++) {
            fresh().stream("\33".repeat(n) + "&a7CA").at(5760, 4500);
            fresh().stream("\33".repeat(n) + "=A").at(720, 5100);
            fresh().stream("\33".repeat(n) + " A").at(720, 4500);
        }
    }

    /** "what a STREAM was in the midst of (a sequence, its DATA, a macro) goes on in the next STREAM of the job" */
    private static void goesOnInTheNextStream() {
        goesOn("A\33&a+1.5c2RB\33&p3XA\nB\33*b3W\1\2\3\33&f4y0XCC\33&f1X\33&f2x1wZ0Y\33=D");
        goesOn("\33&a12.3456789c-.0987R\33&k0007.65h0.G\33*p+00123.4567x-1.2345Y\33)s-2.5b7.25v12.375H\33\33\33&\33&l\33&l6\33&l6\1\33&l2.a1.5Z");
        goesOn(Refused.SETUP);
    }

    /** Cut anywhere, and cut into small pieces, the stream does the same. */
    private static void goesOn(String whole) {
        Tester one = fresh().stream(whole);
        for (int cut = 0; cut <= whole.length(); cut++) {
            Tester t = fresh().stream(whole.substring(0, cut)).stream(whole.substring(cut));
            for (int which = 0; which < 26; which++) {
                t.status(which, one.x.status(which));
            }
        }
        Tester t = fresh();
        // in pieces as small as 512 calls let them be
        int piece = 1 + whole.length() / 140;
        for (int i = 0; i < whole.length(); i += piece) {
            t.stream(whole.substring(i, Math.min(whole.length(), i + piece))).stream("");
        }
        for (int which = 0; which < 26; which++) {
            t.status(which, one.x.status(which));
        }
    }

    /** "of its whole part at most 32767 (more is 32767)" */
    private static void theWholePartIsAtMost32767() {
        // with a step of one unit X tells the whole part; what is behind the point stays
        String[] more = {"32768", "32769", "40000", "65535", "65536", "65537", "99999", "327670", "2147483647", "2147483648", "4294967296",
            "99999999999999999999999999", "032768"};
        fresh().stream("\33&k.0167H\33&a32766C").at(32766, 4500);
        fresh().stream("\33&k.0167H\33&a32767C").at(32767, 4500);
        fresh().stream("\33&k.0167H\33&a0000032767C").at(32767, 4500);
        for (String m : more) {
            fresh().stream("\33&k.0167H\33&a" + m + "C").at(32767, 4500);
            fresh().stream("\33&k.0167H\33&a40000.C\33&a-" + m + "C").at(0, 4500);
            // an ID tells the number itself
            fresh().stream(Tester.font(32767, 277, 0, 1000, 1200, 0, 0, 3) + Tester.plainFont(1, 0) + "\33(" + m + "X").status(14, 32767);
        }
        fresh().stream("\33&k.0334H\33&a10000.5C").at(20001, 4500);
        fresh().stream("\33&l26a1o\33&k.0334H\33&a32768.5C").at(65535, 4500);
        fresh().stream("\33&l26a1o\33&k.0334H\33&a99999.4C").at(65534, 4500);
    }

    /** "of the digits behind the point the first four" */
    private static void theFirstFourDigits() {
        // with a step of 10000 units X tells the ten-thousandths
        String step = "\33&k166.6667H";
        String[][] values = {{".1", "1000"}, {".01", "100"}, {".001", "10"}, {".0001", "1"}, {".00001", "0"}, {".00009", "0"}, {".99999", "9999"},
            {".12345678", "1234"}, {"1.", "10000"}, {"1.00010000000000000000000000001", "10001"}, {"0.0", "0"}, {".1230", "1230"}, {".0999999", "999"}};
        for (String[] v : values) {
            fresh().stream(step + "\33&a" + v[0] + "C").at(Integer.parseInt(v[1]), 4500);
            fresh().stream(step + "\33&a2c-" + v[0] + "C").at(20000 - Integer.parseInt(v[1]), 4500);
        }
    }

    /** "a VALUE is (each perhaps missing) a + or -, digits, and a point with digits (perhaps none)" */
    private static void eachPerhapsMissing() {
        String[][] values = {{"", "0"}, {".", "0"}, {"+", "1440"}, {"-", "1440"}, {"+.", "1440"}, {"5", "3600"}, {"5.", "3600"}, {".5", "360"}, {"5.5", "3960"},
            {"+5", "5040"}, {"-1", "720"}, {"+.5", "1800"}, {"-.5", "1080"}, {"+1.5", "2520"}, {"-1.", "720"}};
        for (String[] v : values) {
            fresh().stream("\33&a2c" + v[0] + "C").at(Integer.parseInt(v[1]), 4500);
        }
    }

    /** "negative if it has a -; SIGNED if it has a + or -"; "(v is the VALUE, n its whole part, both 0 for a negative one where that is not said.)" */
    private static void negativeAndSigned() {
        fresh().stream("\33&a9c-0C").at(6480, 4500).stream("\33&a+0C").at(6480, 4500).stream("\33&a0C").at(0, 4500);
        String[][] zeros = {{"\33&l-5x", "\33&l0x"}, {"\33&l-3C", "\33&l0C"}, {"\33&l-9E", "\33&l0E"}, {"\33&l-9F", "\33&l0F"}, {"\33&l-1L", "\33&l0L"},
            {"\33&k-7H", "\33&k0H"}, {"\33&k-2G", "\33&k0G"}, {"\33&a-3L", "\33&a0L"}, {"\33&a-9M", "\33&a0M"}, {"\33&s-1C", "\33&s0C"}, {"\33&f-1S", "\33&f0S"},
            {"\33&l-2A", "\33&l0A"}, {"\33&l-1O", "\33&l0O"}, {"\33&l-6D", "\33&l0D"}, {"\33*c-3D", "\33*c0D"}, {"\33*c-3E", "\33*c0E"}, {"\33*c-3F", "\33*c0F"},
            {"\33*c-9A\33*cP", "\33*c0A\33*cP"}, {"\33*c-9H\33*cP", "\33*c0H\33*cP"}, {"\33*c-9G\33*c2P", "\33*c0G\33*c2P"}, {"\33*c-1P", "\33*c0P"},
            {"\33*v-1T", "\33*v0T"}, {"\33*v-1N", "\33*v0N"}, {"\33*v-1O", "\33*v0O"}, {"\33*r-1A", "\33*r0A"}, {"\33*r-9S\33*rA", "\33*r0S\33*rA"},
            {"\33*b-1M", "\33*b0M"}, {"\33*b-4Y", "\33*b0Y"}, {"\33(s-1P", "\33(s0P"}, {"\33(s-4S", "\33(s0S"}, {"\33(s-4T", "\33(s0T"}, {"\33(-3X", "\33(0X"},
            {"\33(-3U", "\33(0U"}, {"\33&f-6Y\33&f2X", "\33&f0Y\33&f2X"}, {"\33&f-2XQQ\33&f1X", "\33&f0XQQ\33&f1X"}, {"\33*t-75R", "\33*t0R"}, {"\33&l-.5A", "\33&lA"}};
        for (String[] z : zeros) {
            Tester negative = fresh().stream(Refused.SETUP + z[0] + "A\n\t\33*cP\33*c2p\33*b4W\1\2\3\4\33*rCA\r\f");
            Tester zero = fresh().stream(Refused.SETUP + z[1] + "A\n\t\33*cP\33*c2p\33*b4W\1\2\3\4\33*rCA\r\f");
            negative.conclude();
            zero.conclude();
            for (int which = 0; which < 26; which++) {
                negative.status(which, zero.x.status(which));
            }
            for (int k = 0; k <= zero.x.status(22) / 8; k++) {
                Tester.due("bytesAt(" + k + ") behind " + z[0].substring(1), negative.x.bytesAt(k), zero.x.bytesAt(k));
            }
        }
    }

    /** "A COMMAND with END W has DATA: as many bytes behind it as the whole part of its VALUE says .., whatever they are" */
    private static void asManyBytesAsTheWholePartSays() {
        for (int n = 0; n < 40; n++) {
            for (String s : new String[] {"\33!", "\33&l", "\33*b", "\33(s", "\33)", "\33*c"}) {
                fresh().stream(s + n + "W" + "\33".repeat(n) + "A").at(720, 4500);
                fresh().stream(s + n + ".9999W" + "\f".repeat(n) + "A").at(720, 4500).status(2, 0);
                fresh().stream(s + n + "w" + "Q".repeat(n) + "1Z\nA").at(720, 5700);
                fresh().stream(s + "+" + n + "W" + "A".repeat(n + 2)).at(1440, 4500);
            }
        }
        fresh().stream("\33*W!A").at(1440, 4500);
    }

    /** "(none if it is negative)" */
    private static void noneIfItIsNegative() {
        fresh().stream("\33!-1WA").at(720, 4500);
        fresh().stream("\33!-32767WAAA").at(2160, 4500);
        fresh().stream("\33!-0WA").at(720, 4500);
        fresh().stream("\33&p-3XA\nB").at(1440, 5700);
        fresh().stream("\33*b-2W\1\2A").status(21, 1).status(4, 0).at(720, 4500);
    }

    /** "So has that of & p X (& being the FAMILY, p the GROUP, X the END)"; its "DATA .. are characters, whatever they are (also those below 32)" */
    private static void theDataOfPX() {
        for (int b = 0; b < 256; b++) {
            fresh().stream("\33&p1X" + text(b) + "A").at(1440, 4500);
            fresh().stream("\33&p1X" + text(b) + "\33E").status(2, b == 32 ? 0 : 1);
        }
        fresh().stream("\33&p0XA\n").at(720, 5700);
        fresh().stream("\33&p2x\n\n1x\f1X\r\r").at(0, 4500).status(2, 0);
        // not of another group or family
        for (String s : new String[] {"\33&l3X", "\33*p3X", "\33(3X", "\33&a3X", "\33(p3X", "\33&3X"}) {
            fresh().stream(s + "\nA").at(s.equals("\33*p3X") ? 792 : 720, 5700);
        }
        fresh().stream("\33&p3YA\n").at(720, 5700);
    }

    /** As the whole part is at most 32767, so are DATA: the bytes of seven macros, and then one character. */
    private static void theLongestData() {
        for (String n : new String[] {"32767", "32768", "99999"}) {
            for (String end : new String[] {"\33!" + n + "W", "\33&p" + n + "X"}) {
                Tester t = fresh().stream("\33&f2y0X" + "\0".repeat(4681) + "\33&f1X\33&f1y0X\33&k0H" + end + "\33&f1X");
                t.stream("\33&f1y2x2y2x2x2x2x2x2x2X").status(19, 5 + end.length() + 7 * 4681);
                t.stream("\33&k12HA").at(720, 4500).stream("\n").at(720, 5700);
            }
        }
    }

    /** "(only the first 4096 of them count)" */
    private static void onlyTheFirst4096Count() {
        // 128 says nothing; the last two bytes are a row of one dot, if both count
        for (int n = 4094; n <= 4098; n++) {
            Tester t = fresh().stream("\33*b2m" + n + "W" + "\200".repeat(n - 2) + "\0\1A");
            t.at(720, 4500).status(21, 1).status(4, n <= 4096 ? 1 : 0);
        }
        fresh().stream("\33*b1m4100W" + "\0\0".repeat(2047) + "\0\1\0\1\0\1").status(4, 0).status(21, 1);
    }

    /** "All other bytes are characters, if they are 32 or more, and control codes." */
    private static void otherBytesAreCharacters() {
        for (int b = 0; b < 256; b++) {
            boolean moves = b == 9;
            int want = b >= 32 ? 720 : moves ? 5760 : 0;
            fresh().stream(text(b)).at(want, b == 10 ? 5700 : 4500).status(2, b == 12 ? 1 : 0).status(11, b == 14 ? 1 : 0);
            if (b < 32 && (b < 8 || b == 11 || b > 15 && b != 27)) {
                Refused.nothing(Refused.SETUP, text(b));
            }
        }
    }

    /** "When a job has FAILED .. what is left of its part is passed over, no more parts are taken, and its FILE has the pages that were there before." */
    private static void passedOverBehindAFault() {
        Tester t = fresh().stream("\33&f3y0XCCC\33&f1X\33&f10X" + "\f".repeat(41) + "AAA\33&l1O\33&f6X\33*c9a9b0P\16");
        t.status(3, 20).status(2, 40).at(0, 4500).status(10, 0).status(16, 1).status(4, 0).status(11, 0);
        Tester.due("no more parts", t.submit(0, 1), Tester.STATE);
        t.status(2, 40).conclude();
        t.status(23, 40).status(16, 1).stream("A").at(720, 4500);
    }

    /** "All others of OTHERS are passed over.": of each FAMILY and GROUP the ENDs that have no meaning, in one sequence */
    private static void othersArePassedOver() {
        String[][] known = {{"&l", "AOXCDEFLW"}, {"&k", "HGW"}, {"&a", "LMCHRVW"}, {"&s", "CW"}, {"&f", "SYXW"}, {"&p", "XW"}, {"*p", "XYW"}, {"*c", "ABHVDEFGPW"},
            {"*v", "TNOW"}, {"*t", "RW"}, {"*r", "ABCSTW"}, {"*b", "MYW"}, {"(s", "PHVSBTW"}, {")s", "PHVSBTW"}, {"(", "ABCDEFGHIJKLMNOPQRSTUVXW"}, {")", "ABCDEFGHIJKLMNOPQRSTUVXW"},
            {"&", "W"}, {"*", "W"}, {"&c", "W"}, {"&t", "W"}, {"&b", "W"}, {"&r", "W"}, {"*l", "W"}, {"*a", "W"}, {"*s", "W"}, {"*k", "W"}, {"*f", "W"}, {"(c", "W"}, {")p", "W"}, {"(b", "W"},
            {"!l", "W"}, {"\"s", "W"}, {"#l", "W"}, {"$a", "W"}, {"%k", "W"}, {"'f", "W"}, {"+c", "W"}, {",p", "W"}, {"-b", "W"}, {".r", "W"}, {"/v", "W"}, {"%", "W"}, {"/", "W"}, {"'", "W"}};
        for (String[] k : known) {
            for (int value : new int[] {0, 1, 2, 6, 10, 75}) {
                StringBuilder s = new StringBuilder("\33" + k[0]);
                for (int end = 65; end <= 94; end++) {
                    if (k[1].indexOf(end) < 0) {
                        s.append(value).append((char) (end + 32));
                    }
                }
                Refused.nothing(Refused.SETUP, s.append(value).append('@').toString());
            }
            // DATA that nobody asks for
            if (!k[0].equals("*b") && !k[0].equals("(s") && !k[0].equals(")s")) {
                Refused.nothing(Refused.SETUP, "\33" + k[0] + "14W" + "\1\25\1\0\1\0\0\0\1\0\0\0\0\3");
            }
        }
    }
}
