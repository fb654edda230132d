import java.nio.charset.StandardCharsets;

/** A printer under test, with the plain printer beside it that must tell the same. */
final class Tester {
    /** The answer of a call that throws. */
    static final long ARGUMENT = Long.MIN_VALUE + 1;
    static final long STATE = Long.MIN_VALUE + 2;
    static final long INDEX = Long.MIN_VALUE + 3;

    private static int wrong = 0;
    private static int asked = 0;
    final FreshPrinter x;
    /** The plain printer, null without one. */
    private final PlainPrinter y;

    Tester(int dpi, int band) {
        this(dpi, band, true, false);
    }

    private Tester(int dpi, int band, boolean beside, boolean beyond) {
        x = new FreshPrinter(dpi, band, beyond);
        y = beside ? new PlainPrinter(dpi, band) : null;
    }

    /** A printer without a plain one beside it. */
    static Tester alone(int dpi, int band) {
        return new Tester(dpi, band, false, false);
    }

    /** A printer for bounds that 512 calls do not come to: what it answers there is the class's own. */
    static Tester beyond(int dpi, int band) {
        return new Tester(dpi, band, false, true);
    }

    static void due(String what, long got, long want) {
        asked++;
        if (got != want) {
            wrong++;
            StackTraceElement[] trace = new Throwable().getStackTrace();
            StackTraceElement at = trace[trace.length - 1];
            for (StackTraceElement e : trace) {
                if (e.getClassName().endsWith("Test")) {
                    at = e;
                    break;
                }
            }
            System.out.println(at + ": " + what + " answered " + got + ", due is " + want);
        }
    }

    static void due(String what, String got, String want) {
        due(what + ", " + got + " for " + want, got.equals(want) ? 1 : 0, 1);
    }

    static void end() {
        System.out.println(wrong == 0 ? "all " + asked + " answers are as due" : wrong + " answers are not as due");
        if (wrong != 0) {
            System.exit(1);
        }
    }

    static byte[] bytes(String text) {
        return text.getBytes(StandardCharsets.ISO_8859_1);
    }

    /** Numbers as the characters of a text. */
    static String text(int... numbers) {
        StringBuilder b = new StringBuilder();
        for (int n : numbers) {
            b.append((char) (n & 255));
        }
        return b.toString();
    }

    static String two(int n) {
        return text(n >> 8, n);
    }

    /** Puts bytes on the tape, and tells how many of the last twenty count. */
    int tape(byte[] bytes) {
        for (int at = 0; at < bytes.length; at += 20) {
            int[] n = new int[5];
            for (int i = 0; i < 20; i++) {
                n[i / 4] = n[i / 4] << 8 | (at + i < bytes.length ? bytes[at + i] & 255 : 0xF1);
            }
            tape(n[0], n[1], n[2], n[3], n[4]);
        }
        return bytes.length == 0 ? 20 : (bytes.length - 1) % 20 + 1;
    }

    boolean tape(int a, int b, int c, int d, int e) {
        boolean got = x.tape(a, b, c, d, e);
        if (y != null) {
            due("tape", got ? 1 : 0, y.tape(a, b, c, d, e) ? 1 : 0);
        }
        return got;
    }

    long submit(int kind, int n) {
        long got;
        try {
            got = x.submit(kind, n);
        } catch (IllegalArgumentException e) {
            got = ARGUMENT;
        } catch (IllegalStateException e) {
            got = STATE;
        }
        if (y == null) {
            return got;
        }
        long want;
        try {
            want = y.submit(kind, n);
        } catch (IllegalArgumentException e) {
            want = ARGUMENT;
        } catch (IllegalStateException e) {
            want = STATE;
        }
        due("submit(" + kind + ", " + n + ")", got, want);
        compare();
        return got;
    }

    Tester stream(String text) {
        submit(0, tape(bytes(text)));
        return this;
    }

    /** Submits a picture file and tells the fault. */
    int file(byte[] file) {
        submit(1, tape(file));
        return x.status(3);
    }

    int conclude() {
        int got = x.conclude();
        if (y == null) {
            return got;
        }
        due("conclude()", got, y.conclude());
        compare();
        for (int k = -1; k <= y.status(22) / 8; k++) {
            due("bytesAt(" + k + ")", x.bytesAt(k), y.bytesAt(k));
        }
        for (int p = 0; p < y.status(23); p++) {
            for (int w = 0; w < 4; w++) {
                due("sheetOf(" + p + ", " + w + ")", x.sheetOf(p, w), y.sheetOf(p, w));
            }
        }
        return got;
    }

    private void compare() {
        for (int which = -1; which <= 26; which++) {
            due("status(" + which + ") beside the plain printer", x.status(which), y.status(which));
        }
    }

    long sheetOf(int p, int w) {
        try {
            return x.sheetOf(p, w);
        } catch (IndexOutOfBoundsException e) {
            return INDEX;
        }
    }

    Tester status(int which, int want) {
        due("status(" + which + ")", x.status(which), want);
        return this;
    }

    /** The cursor stands at X, Y. */
    Tester at(int wantX, int wantY) {
        status(7, wantX);
        status(8, wantY);
        return this;
    }

    /** Dots of a line of a page of the file that can be seen, # for black. */
    String dots(int p, int line, int from, int count) {
        StringBuilder b = new StringBuilder();
        for (int i = from; i < from + count; i++) {
            b.append((x.printed(p, line, i / 64) >>> 63 - i % 64 & 1) == 1 ? '#' : '.');
        }
        return b.toString();
    }

    Tester dots(int p, int line, int from, String want) {
        due("dots of page " + p + ", line " + line + " from " + from, dots(p, line, from, want.length()), want);
        return this;
    }

    /** Rules of one dot, most of them by a macro, so that they need few bytes of the tape. */
    static String rules(int n) {
        String left = n % 256 == 0 ? "" : "\33*c" + "0p".repeat(n % 256 - 1) + "0P";
        return "\33*c1a1B\33&f99y0X\33*c" + "0p".repeat(255) + "0P\33&f1X" + "\33&f2X".repeat(n / 256) + left;
    }

    /** A font of an ID with its attributes: SET, SPACING, PITCH, HEIGHT, STYLE, WEIGHT, FACE. */
    static String font(int id, int... a) {
        return "\33*c" + id + "D\33)s14W" + two(a[0]) + text(a[1]) + two(a[2]) + text(0) + text(a[3] >> 16) + two(a[3])
                + two(a[4]) + text(a[5]) + two(a[6]);
    }

    static String plainFont(int id, int spacing) {
        return font(id, 277, spacing, 1000, 1200, 0, 0, 3);
    }

    static String glyph(int id, int code, int left, int top, int width, int depth, int step, int... dots) {
        return "\33*c" + id + "d" + code + "E\33(s" + (10 + dots.length) + "W" + two(left) + two(top) + two(width)
                + two(depth) + two(step) + text(dots);
    }
}
