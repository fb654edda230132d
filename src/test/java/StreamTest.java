/** Terms: the stream's sequences, the page and its state, characters, control codes and commands. */
public final class StreamTest {
    public static void main(String[] args) {
        sequences();
        values();
        data();
        sizes();
        steps();
        margins();
        controlCodes();
        lineFeeds();
        characters();
        cursor();
        stack();
        ejecting();
        Tester.end();
    }

    private static Tester fresh() {
        return new Tester(75, 16);
    }

    private static void sequences() {
        fresh().stream("\33&a5C").at(3600, 4500);
        fresh().stream("\33&a5c2R").at(3600, 6900);
        fresh().stream("\33&a5c2r+1C").at(4320, 6900);
        fresh().stream("\33&a5c_7CA").at(3600 + 3 * 720, 4500);
        fresh().stream("\33&a5c2 7C").at(3600 + 2 * 720, 4500);
        fresh().stream("\33&a5c2\1777C").at(3600 + 2 * 720, 4500);
        fresh().stream("\33&a5c2\0" + "7C").at(3600 + 2 * 720, 4500);
        fresh().stream("\33&a5c2\33&a7C").at(5040, 4500);
        fresh().stream("\33&a5c2\33\33&a7C").at(5040, 4500);
        fresh().stream("\33\33\33&a7C").at(5040, 4500);
        fresh().stream("\33 A").at(720, 4500);
        fresh().stream("\33\177A").at(720, 4500);
        fresh().stream("\33\377A").at(720, 4500);
        fresh().stream("\33\nA").at(720, 4500);
        fresh().stream("\33/A").at(0, 4500);
        fresh().stream("\33!A\33~\33" + "0").at(0, 4500);
        fresh().stream("\33&_A").at(720, 4500);
        fresh().stream("\33&a~AA").at(720, 4500);
        fresh().stream("\33&a1`5C").at(3600, 4500);
        fresh().stream("\33&5CA").at(720, 4500);
        fresh().stream("\33\377&a7C").at(720 * 4, 4500);
        fresh().stream("\33&\33&a7C").at(5040, 4500);
        fresh().stream("\33&a\33&a7C").at(5040, 4500);
        fresh().stream("\377\200A").at(2160, 4500);
    }

    private static void values() {
        fresh().stream("\33&aC").at(0, 4500);
        fresh().stream("\33&a.C").at(0, 4500);
        fresh().stream("\33&a1.5C").at(1080, 4500);
        fresh().stream("\33&a1.59999C").at(15999 * 720 / 10000, 4500);
        fresh().stream("\33&a.00129C").at(12 * 720 / 10000, 4500);
        fresh().stream("\33&a1..5CA").at(720 * 3, 4500);
        fresh().stream("\33&a1+5CA").at(720 * 3, 4500);
        fresh().stream("\33&a+-5CA").at(720 * 3, 4500);
        fresh().stream("\33&a.+5CA").at(720 * 3, 4500);
        fresh().stream("\33&a10c+C").at(7200, 4500);
        fresh().stream("\33&a10c-2.5C").at(5400, 4500);
        fresh().stream("\33&a10c-.0013C").at(7200, 4500);
        fresh().stream("\33&a10c-.0014C").at(7199, 4500);
        fresh().stream("\33&a-10C").at(0, 4500);
        fresh().stream("\33&a0000000000000000000010C").at(7200, 4500);
        // more than 32767 is 32767: 32767 of a step of 1 unit
        fresh().stream("\33&k.0167H\33&a32767C").at(32767, 4500);
        fresh().stream("\33&k.0167H\33&a32768C").at(32767, 4500);
        fresh().stream("\33&k.0167H\33&a99999999999999999999C").at(32767, 4500);
        fresh().stream("\33&k.0334H\33&a99999.5C").at(57600, 4500);
        fresh().stream("\33&k.0167H\33&a99999.9999C\33&a+.0001C").at(32767, 4500);
        // a value below 0 counts as 0 where nothing else is said
        fresh().stream("\33&l-6D\33&l-5a-1Ox").status(9, 2).status(10, 0).at(720, 4500);
        fresh().stream("\33&k-5HABC").at(0, 4500);
        fresh().stream("\33&f-3SABC\33&f1S").at(0, 4500);
    }

    private static void data() {
        fresh().stream("\33&l3WABCD").at(720, 4500);
        fresh().stream("\33&l3wABC6aD").at(0, 4500).status(9, 6);
        fresh().stream("\33&l3wABC6AD").at(720, 4500).status(9, 6);
        fresh().stream("\33&l-3WABCD").at(2880, 4500);
        fresh().stream("\33&l0.9WABCD").at(2880, 4500);
        fresh().stream("\33!5W\33\33\33\33\33A").at(720, 4500);
        fresh().stream("\33&p3X\n\33&A").at(2880, 4500);
        fresh().stream("\33&p2xAB1XCD").at(2880, 4500);
        fresh().stream("\33&p2xABCD").at(1440 + 720, 4500);
        fresh().stream("\33&p-2XAB").at(1440, 4500);
        fresh().stream("\33&p0XAB").at(1440, 4500);
        fresh().stream("\33&p1x\n_A").at(1440, 4500);
        fresh().stream("\33*p2X").at(48, 4500);
        // 4097 bytes of a row: the last one does not count, but is not a character
        fresh().stream("\33*b4097W" + "\0".repeat(4096) + "\377").at(0, 4500).status(21, 1).status(4, 0);
        fresh().stream("\33*b1m4097W" + "\0\0".repeat(319) + "\0\1" + "\377".repeat(4097 - 640)).status(4, 1).status(5, 640);
    }

    private static void sizes() {
        int[][] sizes = {{1, 52200, 75600}, {2, 61200, 79200}, {3, 61200, 100800}, {6, 79200, 122400}, {26, 59528, 84189}};
        for (int[] s : sizes) {
            for (int o = 0; o < 4; o++) {
                int across = o % 2 == 0 ? s[1] - 3600 : s[2] - 2880;
                int down = o % 2 == 0 ? s[2] : s[1];
                Tester t = fresh();
                t.stream("A\33&l" + s[0] + "a" + o + "O").status(9, s[0]).status(10, o).status(2, 1).at(0, 4500);
                t.stream("\33*p32767x32767Y").at(Math.min(across, 32767 * 24), down);
                t.stream("\33&a-99999.h-99999V").at(0, 0);
                t.stream("\33E").status(9, 2).status(10, 0).status(2, 1).at(0, 4500);
            }
        }
        for (String n : new String[] {"0", "4", "5", "7", "25", "27", "32767"}) {
            fresh().stream("A\33&l" + n + "A").status(9, 2).status(2, 0).at(720, 4500);
        }
        fresh().stream("A\33&l4O").status(10, 0).status(2, 0).at(720, 4500);
        fresh().stream("A\33&l2A").status(2, 1).at(0, 4500);
        fresh().stream("A\33&l0O").status(2, 1).at(0, 4500);
        fresh().stream(" \33&l0O").status(2, 0).at(0, 4500);
        fresh().stream("\33&l8D\33&l6A").at(0, 3600 + 675);
    }

    private static void steps() {
        fresh().stream("\33&k20HA").at(1200, 4500);
        fresh().stream("\33&k0HA\tB\b").at(0, 4500);
        fresh().stream("\33&k.01HA").at(0, 4500);
        fresh().stream("\33&k32767HA").at(0, 4500);
        fresh().stream("\33&l8C\n").at(0, 5700);
        fresh().stream("\33&l.5C\n").at(0, 4575);
        fresh().stream("\33&l528C\n").at(0, 63000).status(2, 1);
        fresh().stream("\33&l529C\n").at(0, 5700);
        for (int n = 0; n <= 50; n++) {
            boolean good = " 1 2 3 4 6 8 12 16 24 48 ".contains(" " + n + " ");
            fresh().stream("\33&l" + n + "D\n").at(0, 4500 + (good ? 7200 / n : 1200));
        }
        fresh().stream("\33&l10E\33&a0R").at(0, 12900).stream("\33&a0V").at(0, 12000);
        fresh().stream("\33&l66e0r\33&a0V").at(0, 79200);
        fresh().stream("\33&l67E\33&a0V").at(0, 3600);
        fresh().stream("\33&l0e\33&a0V").at(0, 0);
        fresh().stream("\33&l32767c32767E\33&a0V").at(0, 3600);
    }

    private static void margins() {
        fresh().stream("\33&a10L").at(7200, 4500).stream("\r").at(7200, 4500);
        fresh().stream("\33&a20c10L").at(14400, 4500).stream("\r").at(7200, 4500);
        fresh().stream("\33&a10m11L").at(0, 4500).stream("\33&a10L").at(7200, 4500);
        fresh().stream("\33&a10l9M\33&a50C").at(36000, 4500).stream("A").at(36720, 4500);
        fresh().stream("\33&a50c10M").at(7920, 4500).stream("A").at(7920, 4500).stream("\bAA").at(7920, 4500);
        fresh().stream("\33&a10l10M\33&a50C").at(36000, 4500);
        fresh().stream("\33&a80M\33&a79CAA").at(57600, 4500);
        fresh().stream("\33&a32767M\33&a79CAA").at(57600, 4500);
        fresh().stream("\33&k0H\33&a5L\33&a5M\33&k12H\33&a79CAA").at(57600, 4500);
        fresh().stream("\33&a10l20M\0339\r").at(0, 4500).stream("\33&a79CAA").at(57600, 4500);
    }

    private static void controlCodes() {
        fresh().stream("ABC\b").at(1440, 4500).stream("\b\b\b").at(0, 4500);
        fresh().stream("\33&a3lA\b\b").at(2160, 4500);
        fresh().stream("\33&a3l\33&a1.5C\b").at(360, 4500).stream("\b").at(0, 4500);
        fresh().stream("\33&a3l\33&a3.5C\b").at(2160, 4500);
        fresh().stream("\t").at(5760, 4500).stream("\t").at(11520, 4500).stream("A\t").at(17280, 4500);
        fresh().stream("\33&a3L\33&a1C\t").at(2160, 4500).stream("\t").at(2160 + 5760, 4500);
        fresh().stream("\33&a3l\33&k0h\33&a0C\t").at(2160, 4500).stream("\t").at(2160, 4500);
        fresh().stream("\33&a9M\t").at(5760, 4500).stream("\t").at(7200, 4500).stream("\t").at(7200, 4500);
        fresh().stream("\33&a9m\33&a50C\t").at(7200, 4500);
        fresh().stream("\1\2\7\13\20\32\34\37").at(0, 4500).status(2, 0);
        fresh().stream("\16").status(11, 1).stream("\17").status(11, 0);
        fresh().stream("\16\33E").status(11, 0);
        String[] ends = {"\33&k0G", "\33&k1G", "\33&k2G", "\33&k3G", "\33&k3g4G"};
        for (int e = 0; e < 5; e++) {
            boolean feeds = e == 1 || e >= 3;
            boolean returns = e >= 2;
            fresh().stream(ends[e] + "A\r").at(0, feeds ? 5700 : 4500);
            fresh().stream(ends[e] + "A\n").at(returns ? 0 : 720, 5700);
            fresh().stream(ends[e] + "A\n\f").at(returns ? 0 : 720, 4500).status(2, 1);
        }
    }

    private static void lineFeeds() {
        Tester t = fresh();
        t.stream("\n".repeat(62)).at(0, 4500 + 62 * 1200).status(2, 0).stream("\n").at(0, 4500).status(2, 1);
        fresh().stream("\33*p9999Y").at(0, 79200).stream("\n").at(0, 4500).status(2, 1);
        // the text's length is 72000 behind a top of 3600: 75600
        fresh().stream("\33&l1L\33&a7200V").at(0, 75600).stream("\n").status(2, 1);
        fresh().stream("\33&l1L\33&a7080V").at(0, 74400).stream("\n").at(0, 75600).status(2, 0);
        fresh().stream("\33&l1l2L\33&a7081V\n").status(2, 1);
        fresh().stream("\33&l1l0L\33&a7081V\n").status(2, 0);
        fresh().stream("\33&l1l10F\n\33&a-1R" + "\n".repeat(9)).status(2, 0).at(0, 4500 + 9 * 1200).stream("\n").status(2, 1);
        fresh().stream("\33&l1l63F" + "\n".repeat(63)).status(2, 1);
        fresh().stream("\33&l1l64F" + "\n".repeat(60)).status(2, 1);
        fresh().stream("\33=").at(0, 5100);
        fresh().stream("\33&l1C\33=").at(0, 4575);
        fresh().stream("\33&a6240v\33&a+1.25R").stream("\33*p9999y-25Y").at(0, 78600).stream("\33=").at(0, 79200).status(2, 0);
        fresh().stream("\33*p9999y-24Y\33=").at(0, 4500).status(2, 1);
        fresh().stream("\33&l63E\33&l1l\33&a0R").at(0, 76500).stream("\n").status(2, 1).at(0, 76500);
        // the home of a page is brought to the page
        fresh().stream("\33&l528c1E\f").at(0, 79200).status(2, 1);
    }

    private static void characters() {
        fresh().stream("\33&a79.5CA").at(57240, 4500);
        fresh().stream("\33&a79CA").at(57600, 4500).stream("AA \n").at(57600, 5700);
        fresh().stream("\33&s0C\33&a79CA").at(57600, 4500).stream("A").at(720, 5700);
        fresh().stream("\33&s0C\33&a5L\33&a79.1CA").at(4320, 5700);
        fresh().stream("\33&s0c2C\33&a80C ").at(720, 5700);
        fresh().stream("\33&s0c1C\33&a80C ").at(57600, 4500);
        fresh().stream("\33&s0C\33&a80C\33*p9999YA").at(720, 4500).status(2, 1);
        fresh().stream("\33&s0C\33&k32767H A").at(57600, 6900);
        fresh().stream("\33&s0C\33&k3G\33&a80CA").at(720, 5700);
    }

    private static void cursor() {
        fresh().stream("\33&a100H").at(1000, 4500).stream("\33&a+10.05H").at(1100, 4500).stream("\33&a-0.19H").at(1099, 4500);
        fresh().stream("\33*p100X").at(2400, 4500).stream("\33*p-.5X").at(2388, 4500);
        fresh().stream("\33&a2R").at(0, 6900).stream("\33&a+1R").at(0, 8100).stream("\33&a-.5R").at(0, 7500);
        fresh().stream("\33&a100V").at(0, 4600).stream("\33&a+1V").at(0, 4610).stream("\33&a-2V").at(0, 4590);
        fresh().stream("\33*p100Y").at(0, 6000).stream("\33*p+1Y").at(0, 6024).stream("\33*p-999Y").at(0, 0);
        fresh().stream("\33&a9999C").at(57600, 4500);
        fresh().stream("\33&l3E\33&a0V").at(0, 3600).stream("\33*p0Y").at(0, 3600);
        fresh().stream("\33&l5E\33&a1V").at(0, 6010).stream("\33*p1Y").at(0, 6024).stream("\33&a0R").at(0, 6900);
    }

    private static void stack() {
        Tester t = fresh();
        StringBuilder s = new StringBuilder("\33&f1S");
        for (int i = 0; i < 22; i++) {
            s.append("\33&a").append(i).append("c").append(i).append("R\33&f0S");
        }
        t.stream(s.toString()).at(21 * 720, 4500 + 21 * 1200);
        for (int i = 19; i >= 0; i--) {
            t.stream("\33&f1S").at(i * 720, 4500 + i * 1200);
        }
        t.stream("\33&f1s2S\33&a1C\33&f1S").at(720, 4500);
        fresh().stream("\33&l6A\33*p9999x9999Y\33&f0S\33&l1A\33&f1S").at(48600, 75600);
        fresh().stream("A\33&f0S\33EB\33&f1S").at(720, 4500);
    }

    private static void ejecting() {
        fresh().stream("A\33E").status(2, 1);
        fresh().stream(" \33E").status(2, 0);
        fresh().stream("\33&p1X\7\33E").status(2, 1);
        fresh().stream("\33&a80CA\33E").status(2, 0);
        fresh().stream("A\f\33E").status(2, 1);
        fresh().stream("\f\f").status(2, 2);
        fresh().stream("\33*c1a1b0P\33E").status(2, 1);
        fresh().stream("\33*c1a0b0P\33E").status(2, 0);
        fresh().stream("\33*c1a1b4P\33*c0g2p3p101g2p7g3P\33E").status(2, 0);
        fresh().stream("\33*b1W\0\33E").status(2, 0);
        fresh().stream("\33*b1W\1\33E").status(2, 1);
        fresh().stream("\33*r7S\33*b1W\1\33E").status(2, 0);
        // off the sheet
        fresh().stream("\33*r1A\33*b30000y1W\1\33E").status(2, 1);
        fresh().stream("\33&l3XA\33E").status(2, 3).stream("A\33E").status(2, 4);
        fresh().stream("\33&l0XA\f").status(2, 1);
        Tester t = fresh().stream("\33&l100XA\f");
        t.status(2, 40).status(3, 20);
        // the byte that failed has set the state
        fresh().stream("\f".repeat(40) + "A\33&l6a1OA").status(3, 20).status(9, 6).status(10, 0).at(0, 4500).status(2, 40);
        fresh().stream("\f".repeat(40) + "AB\33&l1O\nA").status(3, 20).status(10, 1).at(0, 4500);
        fresh().stream("\f".repeat(40) + "\16\33&l2X\33&k5HA\33EBB").status(3, 20).status(11, 0).at(0, 4500);
        fresh().stream("\f".repeat(40) + "\33&s0C\33&a80C\33*p9999YAA").status(3, 20).at(720, 4500).status(4, 0);
        fresh().stream("\f".repeat(40) + "\33&k2GAA\n\fA").status(3, 20).at(0, 4500);
        fresh().stream("\f".repeat(40) + "\33*p9999YAA\nA").status(3, 20).at(1440, 4500);
        fresh().stream("\f".repeat(40) + "\33&k1G\33*p9999YAA\rA").status(3, 20).at(0, 4500);
    }
}
