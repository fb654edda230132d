import java.util.ArrayList;
import java.util.HashMap;
import java.util.List;
import java.util.Map;

/**
 * Shows that what is refused changes nothing: with it and without it a printer tells the same, at once
 * and behind each of many streams that bring to light what is kept.
 */
final class Refused {
    /** All that is kept is other than at first, so that a change of it can be seen. */
    static final String SETUP = Tester.font(1, 309, 1, 850, 900, 2, -2, 7) + Tester.glyph(1, 65, -3, 4, 11, 3, 950, 255, 224, 129, 32, 7, 96)
            + Tester.glyph(1, 66, 1, 2, 5, 2, 500, 160, 248) + Tester.font(2, 309, 0, 850, 900, 2, -2, 7)
            + Tester.glyph(2, 65, 0, 0, 8, 1, 9, 85) + "\33*c5F" + Tester.font(3, 100, 1, 10, 10, 1, 1, 1) + "\33)3X"
            + "\33(9U\33(s0p8.5h9v2s-2b7T\33&f6y0X\33*c0P\33&f1X\33&f5y0XAB\n\33&f1X\33&f5y10X\33*c1d65E"
            + "\33*c40a30b3G\33*v3T\33*c25G\33*v1n1O\33*t100R\33*r40s9T\33*b2M\33&l1a1o2x5c3e40f1L\33&k9h1G\33&a4l60M\33&s0C"
            + "\33&a10c5R\33&f0S\33&a12c6R\33&f0S\33&a20c7RA";
    static final String OPEN_RASTER = "\33*r1A\33*b4W\2\17\360\1";
    private static final String HEAD = "\5\7\0\1\0\0\0\2\0\0\1\3\0\7";
    private static final String[] PROBES = probes();
    private static final Map<String, List<Long>> KNOWN = new HashMap<>();

    private Refused() {
    }

    private static String[] probes() {
        List<String> all = new ArrayList<>(List.of("", "A".repeat(90), "\n".repeat(70), "\r\rA", "\f", "\t\t", "\b\b\b", "\16AB\17BA",
                "\33=", "\0339" + "A".repeat(90), "\33EA\n\f", "\33&f1S", "\33&f1s1s1S", "\33&a0c0R", "\33&a0V", "\33&a+1c+1R",
                "\33*cP", "\33*c1P", "\33*c2P", "\33*c3P", "\33*c5P", "\33*v1t\33*c5P", "\33*v2T\33*c5P", "\33*b4W\2\252\17\1",
                "\33*b2m3W\1\252\17\33*b3m1W\0", "\33*r1A\33*b1Y\33*rC", "\33*rC\33*b4W\2\252\17\3\33*rC", "\33*b32767Y",
                "\33&f2X", "\33&f3X", "\33&f8X", "\33&f9x7X", "\33&f7X", "\33&f0XCC\33&f1X\33&f2X", "\33&f6y2X", "\33*c2F", "\33*c3FA",
                "\33*c1F", "\33*c4f1F", "\33)s14W" + HEAD, "\33(s12W\0\1\0\1\0\10\0\2\3\0\252\3AB", "\33*c2f\33*c66E\33(s10W\0\0\0\0\0\1\0\1\0\0"));
        // wishes: of two fonts the first one has all of the wish
        int[] wish = {309, 0, 850, 900, 2, -2, 7};
        for (int a = 0; a < wish.length; a++) {
            for (int by = -1; by <= 1; by += 2) {
                int[] other = wish.clone();
                other[a] = a == 1 ? 1 : wish[a] + by;
                all.add("\33*cF" + Tester.font(11, wish) + Tester.font(12, other));
            }
        }
        all.add("\33*cF" + Tester.font(3, 1, 1, 1, 1, 1, 1, 1) + Tester.font(11, wish));
        return all.toArray(new String[0]);
    }

    /** The stream changes nothing, behind all that is set up, with and without a raster. */
    static void nothing(String refused) {
        nothing(SETUP, refused);
        nothing(SETUP + OPEN_RASTER, refused);
    }

    static void nothing(String before, String refused) {
        same(before, refused, "");
    }

    /** Of two streams it can not be seen which one came. */
    static void same(String before, String one, String other) {
        for (String probe : PROBES) {
            List<Long> want = KNOWN.computeIfAbsent(before + "|" + other + "|" + probe, key -> toldBy(before, other, probe));
            List<Long> got = toldBy(before, one, probe);
            Tester.due(shown(one) + (other.isEmpty() ? " changes nothing" : " is like " + shown(other)) + ", as " + shown(probe) + " shows",
                    got.equals(want) ? 1 : 0, 1);
        }
    }

    /** The stream does change something that can be seen: so the streams that look for it are good for that. */
    static void something(String taken) {
        boolean seen = false;
        for (String probe : PROBES) {
            List<Long> without = KNOWN.computeIfAbsent(SETUP + "||" + probe, key -> toldBy(SETUP, "", probe));
            seen = seen || !toldBy(SETUP, taken, probe).equals(without);
        }
        Tester.due(shown(taken) + " changes something", seen ? 1 : 0, 1);
    }

    private static String shown(String stream) {
        StringBuilder b = new StringBuilder("'");
        for (int i = 0; i < stream.length() && i < 40; i++) {
            char c = stream.charAt(i);
            b.append(c >= 32 && c < 127 ? "" + c : "<" + (int) c + ">");
        }
        return b + (stream.length() > 40 ? "..'" : "'");
    }

    private static List<Long> toldBy(String before, String refused, String probe) {
        Tester t = Tester.alone(300, 64);
        t.stream(before + refused);
        List<Long> all = new ArrayList<>();
        addAll(all, t);
        t.stream(probe);
        addAll(all, t);
        all.add((long) t.x.conclude());
        addAll(all, t);
        for (int k = 0; k <= t.x.status(22) / 8; k++) {
            all.add(t.x.bytesAt(k));
        }
        return all;
    }

    private static void addAll(List<Long> all, Tester t) {
        for (int which = 0; which < 26; which++) {
            all.add((long) t.x.status(which));
        }
    }
}
