import java.util.Arrays;

/** Holds SheetPrinter, in all it tells, against the plain printer on streams and files made by chance. */
public final class AgainstPlainTest {
    /* Much is asked of the file behind that, within the 512 calls of an object. */
    private static final int MOST_TOLD = 400;
    private static int wrong = 0;
    private static long seed;

    public static void main(String[] args) {
        long first = args.length > 0 ? Long.parseLong(args[0]) : 1;
        long runs = args.length > 1 ? Long.parseLong(args[1]) : 250;
        for (seed = first; seed < first + runs && wrong < 20; seed++) {
            run();
        }
        System.out.println(wrong == 0 ? "all answers are as due" : wrong + " answers are not as due");
        if (wrong != 0) {
            System.exit(1);
        }
    }

    private static void due(String call, long got, long want) {
        if (got != want) {
            wrong++;
            System.out.println("seed " + seed + ": " + call + " answered " + got + ", due is " + want);
        }
    }

    private static void run() {
        Maker m = new Maker(seed);
        int dpi = m.r.nextInt(12) == 0 ? 300 : m.r.nextInt(6) == 0 ? 150 : 75;
        int band = m.r.nextInt(3) == 0 ? m.r.nextInt(5) - 1 : m.r.nextInt(1200);
        FreshPrinter x = new FreshPrinter(dpi, band, false);
        PlainPrinter y = new PlainPrinter(dpi, band);
        int jobs = 1 + m.r.nextInt(3);
        for (int job = 0; job < jobs; job++) {
            int parts = 1 + m.r.nextInt(4);
            for (int part = 0; part < parts; part++) {
                boolean pictures = m.r.nextInt(4) == 0;
                byte[] bytes = pictures ? m.pictures() : m.stream(m.r.nextInt(m.r.nextInt(10) == 0 ? 400 : 60));
                if (x.told() + bytes.length / 20 > MOST_TOLD) {
                    break;
                }
                if (!pictures && m.r.nextInt(3) == 0) {
                    // a stream goes on in the next one, wherever it was
                    int cut = m.r.nextInt(bytes.length + 1);
                    submit(x, y, 0, Arrays.copyOf(bytes, cut));
                    statuses(x, y);
                    bytes = Arrays.copyOfRange(bytes, cut, bytes.length);
                }
                submit(x, y, pictures ? 1 : 0, bytes);
                statuses(x, y);
            }
            due("conclude()", x.conclude(), y.conclude());
            statuses(x, y);
            file(x, y, m);
        }
    }

    private static void submit(FreshPrinter x, PlainPrinter y, int kind, byte[] bytes) {
        for (int at = 0; at < bytes.length; at += 20) {
            int[] n = new int[5];
            for (int i = 0; i < 20; i++) {
                n[i / 4] = n[i / 4] << 8 | (at + i < bytes.length ? bytes[at + i] & 255 : 170);
            }
            due("tape", x.tape(n[0], n[1], n[2], n[3], n[4]) ? 1 : 0, y.tape(n[0], n[1], n[2], n[3], n[4]) ? 1 : 0);
        }
        int last = bytes.length == 0 ? 7 : (bytes.length - 1) % 20 + 1;
        long got;
        long want;
        try {
            got = x.submit(kind, last);
        } catch (IllegalStateException e) {
            got = -100;
        }
        try {
            want = y.submit(kind, last);
        } catch (IllegalStateException e) {
            want = -100;
        }
        due("submit(" + kind + ", " + last + ")", got, want);
    }

    private static void statuses(FreshPrinter x, PlainPrinter y) {
        for (int which = -1; which <= 26; which++) {
            due("status(" + which + ")", x.status(which), y.status(which));
        }
    }

    private static void file(FreshPrinter x, PlainPrinter y, Maker m) {
        int bytes = y.status(22);
        for (int k = -1; k <= bytes / 8 + 1; k++) {
            if (x.bytesAt(k) != y.bytesAt(k)) {
                due("bytesAt(" + k + ")", x.bytesAt(k), y.bytesAt(k));
                break;
            }
        }
        for (int p = 0; p < y.status(23); p++) {
            for (int w = 0; w < 4; w++) {
                due("sheetOf(" + p + ", " + w + ")", x.sheetOf(p, w), y.sheetOf(p, w));
            }
            for (int i = 0; i < 6; i++) {
                int line = m.r.nextInt(y.sheetOf(p, 1));
                int k = m.r.nextInt(y.sheetOf(p, 0) / 64 + 1);
                due("printed(" + p + ", " + line + ", " + k + ")", x.printed(p, line, k), y.printed(p, line, k));
            }
        }
    }
}
