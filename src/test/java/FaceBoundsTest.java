import java.util.ArrayList;
import java.util.List;

/** The bounds of the face, sentence by sentence: what it is, promises 1 to 8, and what throws. */
public final class FaceBoundsTest {
    private static final int LEAST = Integer.MIN_VALUE;
    private static final int MOST = Integer.MAX_VALUE;

    public static void main(String[] args) {
        the512thCall();
        dpiIsOneOfThree();
        theBandHas1To1024Lines();
        aJobBegins();
        twentyBytesTheHighestFirst();
        falseIfThereIsNoRoom();
        nIs1To20();
        alsoIfTheTapeIsEmpty();
        howManyPagesTheFileHas();
        argumentIfKindOrNIsNotAsSaid();
        stateIfTheJobHasFailed();
        theFirstExceptionListed();
        thrownAwayAtTheEnd();
        ejectedIfDue();
        failsWithThat();
        theFaultOr0();
        zeroWhereThereAreNoBytes();
        indexIfThereIsNoneSuch();
        zeroWhereThereAreNoDots();
        noneOfAFileBefore();
        noneForAnyOtherWhich();
        noneWithoutOne();
        asking();
        Tester.end();
    }

    private static Tester fresh() {
        return new Tester(75, 16);
    }

    /** "An object is used for at most 512 calls": the 512th one answers as due, whichever it is. */
    private static void the512thCall() {
        for (int last = 0; last < 8; last++) {
            SheetPrinter x = new SheetPrinter(75, 16);
            PlainPrinter y = new PlainPrinter(75, 16);
            int calls = 0;
            // a rule, a page, the end of the job, then twenty characters at a time
            for (int i = 0; i < 2; i++, calls++) {
                int[] n = i == 0 ? new int[] {0x1B2A6339, 0x61396230, 0x500C4142, 0x43440000, 0} : new int[] {0x41414141, 0, 0, 0, 0};
                Tester.due("tape", x.tape(n[0], n[1], n[2], n[3], n[4]) ? 1 : 0, y.tape(n[0], n[1], n[2], n[3], n[4]) ? 1 : 0);
            }
            Tester.due("submit", x.submit(0, 4), y.submit(0, 4));
            Tester.due("conclude", x.conclude(), y.conclude());
            for (calls += 2; calls < FreshPrinter.MOST_CALLS - 1; calls++) {
                Tester.due("tape, call " + (calls + 1), x.tape(0x41420A43, calls, 0, 0, 0) ? 1 : 0, y.tape(0x41420A43, calls, 0, 0, 0) ? 1 : 0);
            }
            lastCall(last, x, y);
        }
    }

    private static void lastCall(int last, SheetPrinter x, PlainPrinter y) {
        switch (last) {
            case 0 -> Tester.due("the last tape", x.tape(1, 2, 3, 4, 5) ? 1 : 0, 1);
            case 1 -> Tester.due("the last submit", x.submit(0, 20), y.submit(0, 20));
            case 2 -> Tester.due("the last conclude", x.conclude(), 0);
            case 3 -> Tester.due("the last bytesAt", x.bytesAt(0), y.bytesAt(0));
            case 4 -> Tester.due("the last sheetOf", x.sheetOf(0, 1), 825);
            case 5 -> Tester.due("the last printed", x.printed(0, 46, 0), y.printed(0, 46, 0));
            case 6 -> Tester.due("the last status", x.status(1), 507 * 20);
            default -> {
                int thrown = 0;
                try {
                    x.submit(0, 21);
                } catch (IllegalArgumentException e) {
                    thrown = 1;
                }
                Tester.due("the last submit throws", thrown, 1);
            }
        }
    }

    /** "DPI is 300 if dpi is 300 or more, else 150 if it is 150 or more, else 75" */
    private static void dpiIsOneOfThree() {
        int[][] dpis = {{LEAST, 75}, {-300, 75}, {-1, 75}, {0, 75}, {1, 75}, {74, 75}, {75, 75}, {76, 75}, {149, 75}, {150, 150}, {151, 150}, {299, 150},
            {300, 300}, {301, 300}, {600, 300}, {MOST, 300}};
        for (int[] d : dpis) {
            Tester t = new Tester(d[0], 16).status(0, d[1]).stream("\f");
            t.conclude();
            Tester.due("dots across with dpi " + d[0], t.sheetOf(0, 0), 61200 * d[1] / 7200);
            Tester.due("dots down with dpi " + d[0], t.sheetOf(0, 1), 79200 * d[1] / 7200);
        }
    }

    /** "the band has band lines, but 1 .. 1024 (it changes nothing of what is told)" */
    private static void theBandHas1To1024Lines() {
        String marks = "\33&l6a1O\33*c300a40b30g2P\33*p90x700Y\33*v1O\33*c400a900b4g3P\33*t100R\33*r1A\33*b3W\252\17\1\33*b40y3W\201\377\33\f"
                + "\33&l3o26A\33*p9x9Y\33*c9999a9999b6g3P\33*p100x100Y\33*c90a2000b1P\f";
        List<Long> want = fileOf(75, 1, marks);
        for (int band : new int[] {LEAST, -1, 0, 2, 5, 16, 63, 64, 65, 876, 877, 1023, 1024, 1025, 1274, 1275, 1276, 100000, MOST}) {
            Tester.due("the file with band " + band, fileOf(75, band, marks).equals(want) ? 1 : 0, 1);
        }
        List<Long> fine = fileOf(300, 1, marks);
        for (int band : new int[] {0, 7, 1023, 1024, 1025, MOST}) {
            Tester.due("the fine file with band " + band, fileOf(300, band, marks).equals(fine) ? 1 : 0, 1);
        }
    }

    private static List<Long> fileOf(int dpi, int band, String stream) {
        Tester t = Tester.alone(dpi, band).stream(stream);
        t.conclude();
        List<Long> all = new ArrayList<>();
        for (int which = 0; which < 26; which++) {
            all.add((long) t.x.status(which));
        }
        for (int k = 0; k <= t.x.status(22) / 8; k++) {
            all.add(t.x.bytesAt(k));
        }
        return all;
    }

    /** "A job begins." Nothing is there, and there is no file of a job that ended. */
    private static void aJobBegins() {
        int[] first = {150, 0, 0, 0, 0, 0, 0, 0, 4500, 2, 0, 0, 0, 0, -1, -1, 0, 0, 0, 0, 0, -1, 0, 0, 0, 0};
        Tester t = new Tester(150, 1);
        for (int which = 0; which < first.length; which++) {
            t.status(which, first[which]);
        }
        Tester.due("bytesAt(0)", t.x.bytesAt(0), 0);
        Tester.due("sheetOf(0, 0)", t.sheetOf(0, 0), Tester.INDEX);
        Tester.due("printed(0, 0, 0)", t.x.printed(0, 0, 0), 0);
    }

    /** "Twenty bytes, of each number the highest first, come to the TAPE: true" */
    private static void twentyBytesTheHighestFirst() {
        // behind a carriage return at each of the twenty places come the characters that are left
        for (int place = 0; place < 20; place++) {
            int[] n = new int[5];
            for (int i = 0; i < 20; i++) {
                n[i / 4] = n[i / 4] << 8 | (i == place ? 13 : 0xC1);
            }
            Tester t = fresh();
            Tester.due("tape", t.tape(n[0], n[1], n[2], n[3], n[4]) ? 1 : 0, 1);
            t.status(1, 20);
            t.submit(0, 20);
            t.at(720 * (19 - place), 4500);
        }
        Tester t = fresh();
        t.tape(LEAST, MOST, -1, 0, 1);
        t.tape(LEAST, MOST, -1, 0, 1);
        t.status(1, 40);
        t.submit(0, 20);
        // 128, then 127, 255, 255, 255, and four times 255 are characters
        t.at(2 * 9 * 720, 4500);
    }

    /**
     * "false if there is no room": 65536 bytes are 3276 times twenty, and 16. (512 calls do not come to
     * that; what is answered here is the class's own.)
     */
    private static void falseIfThereIsNoRoom() {
        Tester t = Tester.beyond(75, 16);
        for (int i = 0; i < 3276; i++) {
            Tester.due("tape", t.tape(i == 3275 ? 0x41414141 : 0, 0, 0, 0, i == 3275 ? 0x4142 : 0) ? 1 : 0, 1);
        }
        t.status(1, 65520);
        for (int i = 0; i < 2; i++) {
            Tester.due("tape without room", t.tape(0x42424242, 0x42424242, 0x42424242, 0x42424242, 0x42424242) ? 1 : 0, 0);
            t.status(1, 65520);
        }
        // n counts from the last tape() that was true
        Tester.due("submit", t.submit(0, 19), 0);
        t.status(1, 0).at(5 * 720, 4500);
        Tester.due("tape", t.tape(0x41000000, 0, 0, 0, 0) ? 1 : 0, 1);
        t.status(1, 20);
    }

    /** "The TAPE, but for as many bytes as the last tape() has more than n, is a PART (n 1 .. 20" */
    private static void nIs1To20() {
        for (int tapes = 1; tapes <= 3; tapes++) {
            for (int n = 1; n <= 20; n++) {
                Tester t = fresh();
                for (int i = 0; i < tapes; i++) {
                    t.tape(0x41414141, 0x41414141, 0x41414141, 0x41414141, 0x41414141);
                }
                Tester.due("submit(0, " + n + ")", t.submit(0, n), 0);
                t.at((20 * (tapes - 1) + n) * 720, 4500).status(1, 0);
            }
        }
        // of a picture file, too: with n 2 the tape has the 62 bytes of this one
        Pictures f = new Pictures(73);
        f.page(new long[] {256, 3, 1, 8}, new long[] {257, 3, 1, 1}, new long[] {273, 4, 1, 61}, new long[] {279, 4, 1, 1});
        Tester.due("the file's length", f.size(), 62);
        for (int n = 1; n <= 4; n++) {
            Tester t = fresh();
            t.tape(f.file());
            t.submit(1, n);
            t.status(3, n < 2 ? 2 : 0).status(2, n < 2 ? 0 : 1);
        }
    }

    /** "also if the TAPE is empty: then the PART has no bytes" */
    private static void alsoIfTheTapeIsEmpty() {
        for (int n = 1; n <= 20; n++) {
            Tester t = fresh().stream("A\f\33&a5");
            Tester.due("submit(0, " + n + ")", t.submit(0, n), 1);
            t.status(3, 0).stream("C").at(3600, 4500);
            t = fresh().stream("\f");
            Tester.due("submit(1, " + n + ")", t.submit(1, n), 1);
            t.status(3, 1).status(1, 0);
        }
    }

    /** "the TAPE is empty then: how many pages the FILE has" */
    private static void howManyPagesTheFileHas() {
        Tester t = fresh();
        for (int pages = 1; pages <= 40; pages++) {
            t.tape(0x0C000000, 0, 0, 0, 0);
            Tester.due("submit", t.submit(0, 1), pages);
            t.status(1, 0).status(2, pages).status(3, 0);
        }
        t.tape(0x0C0C0000, 0, 0, 0, 0);
        Tester.due("submit of one too many", t.submit(0, 2), 40);
        t.status(1, 0).status(3, 20);
        t.conclude();
        Tester.due("submit in the next job", t.submit(0, 1), 0);
    }

    /** "IllegalArgumentException if kind or n is not as said"; "What throws .. changes nothing." */
    private static void argumentIfKindOrNIsNotAsSaid() {
        int[][] wrong = {{0, 0}, {0, 21}, {1, 0}, {1, 21}, {-1, 1}, {2, 1}, {-1, 20}, {2, 20}, {0, -1}, {0, LEAST}, {0, MOST}, {LEAST, 5}, {MOST, 5},
            {256, 1}, {0, 257}, {2, 0}, {-1, 21}};
        for (int[] w : wrong) {
            Tester t = fresh().stream("\f\33&a5");
            Tester.due("submit", t.submit(w[0], w[1]), Tester.ARGUMENT);
            t.tape(0x43414141, 0, 0, 0, 0);
            for (int i = 0; i < 2; i++) {
                Tester.due("submit(" + w[0] + ", " + w[1] + ")", t.submit(w[0], w[1]), Tester.ARGUMENT);
                t.status(1, 20).status(2, 1).status(3, 0).at(0, 4500);
            }
            Tester.due("submit behind it", t.submit(0, 2), 1);
            t.at(3600 + 720, 4500);
        }
    }

    /** "IllegalStateException if the job has FAILED (the TAPE stays)" */
    private static void stateIfTheJobHasFailed() {
        Tester t = fresh().stream("\f");
        t.submit(1, 1);
        t.status(3, 1);
        for (int tapes = 0; tapes < 3; tapes++) {
            for (int kind = 0; kind < 2; kind++) {
                for (int n = 1; n <= 20; n++) {
                    Tester.due("submit of a failed job", t.submit(kind, n), Tester.STATE);
                }
            }
            t.status(1, 20 * tapes).status(2, 1).status(3, 1).at(0, 4500);
            Tester.due("tape of a failed job", t.tape(0x0C0C0C0C, 0, 0, 0, 0) ? 1 : 0, 1);
        }
        Tester.due("conclude", t.conclude(), 1);
        t.status(1, 0);
        Tester.due("submit in the next job", t.submit(0, 20), 0);
    }

    /** "Of several exceptions the first one listed is thrown." */
    private static void theFirstExceptionListed() {
        Tester t = fresh();
        t.submit(1, 1);
        for (int[] w : new int[][] {{0, 0}, {1, 21}, {2, 1}, {-1, 0}}) {
            Tester.due("submit(" + w[0] + ", " + w[1] + ")", t.submit(w[0], w[1]), Tester.ARGUMENT);
        }
        Tester.due("submit(0, 1)", t.submit(0, 1), Tester.STATE);
    }

    /** "what a STREAM was in the midst of is thrown away (also what an X in it said)" */
    private static void thrownAwayAtTheEnd() {
        String[] midst = {"\33", "\33&", "\33&a", "\33&a5", "\33&a5.", "\33&a+", "\33&a5c3", "\33&p5X", "\33&p5XAB", "\33*b3W\1\2", "\33!9W",
            "\33&f1y0XAAA", "\33&f1y0XAAA\33&f1", "\33&f0x", "\33&f9y8x6x", "\33&f9y2x", "\33&f9y3x5", "\33&f9y10x1W"};
        for (String m : midst) {
            Tester t = fresh().stream("\33&f9y0XBBB\33&f1X\33&f10X");
            t.conclude();
            t.stream(m);
            t.conclude();
            t.status(16, 1).status(17, 3).status(18, 0).status(19, 0).status(20, 0).stream("CC").at(1440, 4500).status(16, 1);
            t.stream("\33&f9y2X").at(5 * 720, 4500);
        }
    }

    /** "the page is ejected IF DUE (of a job that has FAILED it is thrown away" */
    private static void ejectedIfDue() {
        Tester t = fresh().stream(" \n\33*c0P\33*b1W\0");
        Tester.due("conclude", t.conclude(), 0);
        t.status(23, 0).stream("A");
        Tester.due("conclude", t.conclude(), 0);
        t.status(23, 1).stream("\33&l3XA");
        Tester.due("conclude", t.conclude(), 0);
        t.status(23, 3).stream("A");
        t.submit(1, 1);
        t.status(2, 0);
        Tester.due("conclude", t.conclude(), 1);
        t.status(23, 0).status(4, 0);
        Tester.due("conclude", t.conclude(), 0);
        t.status(23, 0).status(24, 5);
    }

    /** "if it FAILS with that, that is its FAULT" */
    private static void failsWithThat() {
        for (int pages = 39; pages <= 40; pages++) {
            Tester t = fresh().stream("\f".repeat(pages) + "A").status(3, 0);
            Tester.due("conclude", t.conclude(), pages == 40 ? 20 : 0);
            t.status(23, 40).status(3, 0).status(2, 0);
            Tester.due("the next job", t.stream("A").conclude(), 0);
            t.status(23, 1);
        }
    }

    /** "the FAULT, 0 if it has not FAILED" */
    private static void theFaultOr0() {
        Tester t = fresh();
        Tester.due("conclude", t.conclude(), 0);
        t.submit(1, 1);
        t.status(3, 1);
        Tester.due("conclude", t.conclude(), 1);
        t.status(3, 0);
        Tester.due("conclude", t.conclude(), 0);
        Tester.due("fault", t.file(new Pictures(77).file()), 2);
        Tester.due("conclude", t.conclude(), 2);
        t.status(24, 4);
    }

    /** "Eight bytes 8 * k .. 8 * k + 7 of the FILE .., the first one highest, 0 where there are none." */
    private static void zeroWhereThereAreNoBytes() {
        for (String size : new String[] {"1", "2", "3", "6", "26"}) {
            Tester t = fresh().stream("\33&l" + size + "A\f");
            t.conclude();
            int bytes = t.x.status(22);
            long last = t.x.bytesAt((bytes - 1) / 8);
            int left = (bytes - 1) % 8 + 1;
            // the last four bytes, the next place, are 0; the six ahead of them are not
            Tester.due("behind the last byte", left == 8 ? 0 : last << 8 * left, 0);
            int at = bytes - 8;
            Tester.due("UNIT", t.x.bytesAt(at / 8) >>> 56 - 8 * (at % 8) & 255, 2);
            for (int k : new int[] {(bytes + 7) / 8, (bytes + 7) / 8 + 1, -1, -2, LEAST, MOST, 1 << 28, 1 << 29, -(1 << 29), (1 << 29) + 1, LEAST + 1, 1 << 30}) {
                Tester.due("bytesAt(" + k + ")", t.x.bytesAt(k), 0);
            }
        }
        Tester t = fresh();
        t.conclude();
        Tester.due("bytesAt(0) of eight bytes", t.x.bytesAt(0), 0x49492A0000000000L);
        Tester.due("bytesAt(1) of eight bytes", t.x.bytesAt(1), 0);
    }

    /** "IndexOutOfBoundsException if there is none such, or no such w." */
    private static void indexIfThereIsNoneSuch() {
        Tester t = fresh();
        for (int w = -1; w <= 4; w++) {
            Tester.due("sheetOf of no file", t.sheetOf(0, w), Tester.INDEX);
        }
        t.stream("\f\f\f");
        Tester.due("sheetOf ahead of the end", t.sheetOf(0, 0), Tester.INDEX);
        t.conclude();
        int[] pages = {LEAST, -1, 0, 1, 2, 3, 4, 40, MOST, 1 << 30, 1 << 31};
        int[] ws = {LEAST, -1, 0, 1, 2, 3, 4, 5, MOST};
        long[] want = {637, 825, 8, 107};
        for (int p : pages) {
            for (int w : ws) {
                boolean is = p >= 0 && p < 3 && w >= 0 && w < 4;
                long place = is && w == 2 ? 8 + p * 250L : is ? want[w] : Tester.INDEX;
                Tester.due("sheetOf(" + p + ", " + w + ")", t.sheetOf(p, w), place);
            }
        }
        t.stream("\f\f\f\f");
        Tester.due("a page of the job that has not ended", t.sheetOf(3, 0), Tester.INDEX);
        t.stream("\f".repeat(36)).conclude();
        Tester.due("the fortieth page", t.sheetOf(39, 1), 825);
        Tester.due("the page behind it", t.sheetOf(40, 1), Tester.INDEX);
        t.conclude();
        Tester.due("sheetOf of a file without pages", t.sheetOf(0, 0), Tester.INDEX);
    }

    /** "Dots 64 * k .. 64 * k + 63 of line y of page p ..; 0 where there are none." */
    private static void zeroWhereThereAreNoDots() {
        for (int width : new int[] {1, 63, 64, 65, 127, 128, 129}) {
            Pictures f = new Pictures(73);
            int[] black = new int[2 * ((width + 7) / 8)];
            java.util.Arrays.fill(black, 255);
            f.plain(width, 2, black);
            Tester t = fresh();
            Tester.due("fault", t.file(f.file()), 0);
            Tester.due("dots ahead of the end", t.x.printed(0, 0, 0), 0);
            t.conclude();
            for (int y = -1; y <= 2; y++) {
                for (int k = -1; k <= 3; k++) {
                    int dots = y < 0 || y > 1 || k < 0 ? 0 : Math.max(0, Math.min(64, width - 64 * k));
                    Tester.due("printed(0, " + y + ", " + k + ") of " + width, t.x.printed(0, y, k), dots == 0 ? 0 : -1L << 64 - dots);
                }
            }
            int[][] none = {{-1, 0, 0}, {1, 0, 0}, {LEAST, 0, 0}, {MOST, 0, 0}, {0, LEAST, 0}, {0, MOST, 0}, {0, 0, LEAST}, {0, 0, MOST}, {0, 0, 1 << 26},
                {0, 0, 1 << 27}, {0, 0, -(1 << 26)}, {0, 0, 1 << 25}, {1 << 30, 0, 0}, {40, 0, 0}};
            for (int[] n : none) {
                Tester.due("printed where there is none", t.x.printed(n[0], n[1], n[2]), 0);
            }
            t.conclude();
            Tester.due("printed of a file without pages", t.x.printed(0, 0, 0), 0);
        }
    }

    /** Of a file with fewer pages and bytes nothing is seen of one that was there before */
    private static void noneOfAFileBefore() {
        Tester t = fresh();
        for (int round = 0; round < 3; round++) {
            int pages = 3 - round;
            // each job twice, for the printer may have room for two files
            for (int twice = 0; twice < 2; twice++) {
                t.stream("\33*p0x0Y\33*c9999a9999b0P\f".repeat(pages)).conclude();
                int bytes = t.x.status(22);
                for (int p = 0; p <= 3; p++) {
                    Tester.due("printed(" + p + ", 99, 1)", t.x.printed(p, 99, 1), p < pages ? -1 : 0);
                    Tester.due("sheetOf(" + p + ", 0)", t.sheetOf(p, 0), p < pages ? 637 : Tester.INDEX);
                }
                Tester.due("the last bytes", bytes % 8 == 0 ? 0 : t.x.bytesAt(bytes / 8) << 8 * (bytes % 8), 0);
                for (int k = (bytes + 7) / 8; k < (bytes + 7) / 8 + 120; k++) {
                    Tester.due("bytesAt(" + k + ")", t.x.bytesAt(k), 0);
                }
            }
        }
    }

    /** "NONE for any other which." */
    private static void noneForAnyOtherWhich() {
        Tester t = fresh().stream("A");
        for (int which : new int[] {-1, 26, 27, 28, 255, 256, -26, LEAST, MOST, LEAST + 25, 1 << 16}) {
            t.status(which, SheetPrinter.NONE);
        }
        t.status(0, 75).status(25, 0);
        Tester.due("NONE", SheetPrinter.NONE, -1);
    }

    /** "14, 15: .. (NONE without one)", "21: its ROW (NONE without one)" */
    private static void noneWithoutOne() {
        Tester t = fresh().status(14, -1).status(15, -1).status(20, 0).status(21, -1);
        t.stream(Tester.font(0, 5, 1, 1, 1, 1, 1, 1)).status(14, 0).status(15, 0).stream("\33*c2F").status(14, -1).status(15, -1);
        t.stream("\33*rA").status(20, 1).status(21, 0).stream("\33*rC").status(20, 0).status(21, -1).stream("\33*rA").conclude();
        t.status(20, 0).status(21, -1);
    }

    /** Asking changes nothing: not even a call that throws, or asks for what is not there. */
    private static void asking() {
        FreshPrinter asked = new FreshPrinter(75, 16, false);
        FreshPrinter not = new FreshPrinter(75, 16, false);
        for (int i = 0; i < 30; i++) {
            int[] n = {0x1B2A6339, 0x61396230, 0x500C411B, i % 2 == 0 ? 0x2661352B : 0x26613443, 0x0A1B2661};
            Tester.due("tape", asked.tape(n[0], n[1], n[2], n[3], n[4]) ? 1 : 0, not.tape(n[0], n[1], n[2], n[3], n[4]) ? 1 : 0);
            for (int k = -1; k < 2; k++) {
                asked.bytesAt(k);
                asked.printed(0, 46 + k, k);
                asked.status(13 * k + 12);
                try {
                    asked.sheetOf(k, k);
                } catch (IndexOutOfBoundsException e) {
                    // there was no such page
                }
            }
            Tester.due("submit", asked.submit(0, i % 20 + 1), not.submit(0, i % 20 + 1));
            if (i % 7 == 6) {
                Tester.due("conclude", asked.conclude(), not.conclude());
            }
            for (int which = 0; which < 26; which++) {
                Tester.due("status(" + which + ")", asked.status(which), not.status(which));
            }
            for (int k = 0; k <= not.status(22) / 8; k++) {
                Tester.due("bytesAt(" + k + ")", asked.bytesAt(k), not.bytesAt(k));
            }
        }
    }
}
