import java.util.ArrayList;
import java.util.List;
import java.util.function.Consumer;

/**
 * Each thing that can be said, behind several rows of all that can be set, does what is due and leaves
 * all else alone: looked at with streams that bring to light what is kept, beside the plain printer.
 */
public final class LeftAloneTest {
    /** Much of it is other than at first and other than in the setup of Refused. */
    private static final String SECOND = Tester.font(1, 277, 1, 1000, 1200, 0, 0, 3) + Tester.glyph(1, 65, 2, 5, 9, 2, 700, 255, 128, 129, 0)
            + "\33*c5F" + Tester.font(2, 5, 0, 2000, 800, 3, 3, 9) + Tester.glyph(2, 66, 0, 0, 6, 2, 9, 84, 168) + "\33(2X"
            + "\33)5E\33)s1p12.5h7v4s-3b8T" + Tester.font(4, 5, 1, 1250, 700, 4, -3, 8) + Tester.glyph(4, 65, -1, 3, 7, 3, 800, 170, 84, 170)
            + "\33&f7y0X\33*c1P\33&f1X\33&f7y10X\33&f8y0XB\33&f1X\33*c2d66E"
            + "\33*c50h70v4G\33*v2T\33*c2G\33*v1N\33*r0s5T\33*b3M\33&l3a2o1x6d2e30f0L\33&k10h2G\33&a2l50M\33&s1C"
            + "\33&a11c6R\33&f0S\33&a21c8R\16A";
    private static final String[] SETUPS = {Refused.SETUP, Refused.SETUP + Refused.OPEN_RASTER, SECOND,
        SECOND + "\33*r1A\33*b3W\2\17\360\33*b1Y"};

    private static final int[][] WISHES = {{309, 0, 850, 900, 2, -2, 7}, {100, 1, 10, 10, 1, 1, 1},
        {5, 0, 2000, 800, 3, 3, 9}, {165, 1, 1250, 700, 4, -3, 8}, {277, 0, 1000, 1200, 0, 0, 3}};

    private static final String[] MARKS = {"A", "\33*cP", "\33*p+3x+2Y\33*c5P", "\33*p+9x+2Y\33*c2P", "\33*p+9x+2Y\33*c3P", "BA\33*c1P",
        "\33*b3W\2\252\17", "\33*b3m1W\0", "\33*b1Y", "\33*b32767Y", "\33*rC", "\33*b4W\2\252\17\3", "\33*b32767Y\33*rB", "\f"};
    private static final String[] TEXT = {"AB\b", "\t", "\r", "\n", "\33&a1C", "\33&a1R", "\33&a0V", "A".repeat(90), "\r", "\n".repeat(70),
        "\33&f1S", "\33&f1S", "\33&f1S"};
    private static final String[] STORES = {"\33&f2X", "\33&f7X", "\33&f8X", "\33&f0X\33*c0P\33&f1X", "\33&f3X", "\33*c3F",
        "\33(s12W\0\1\0\1\0\10\0\2\3\0\252\3", "AB\16AB", "\33*c1F", "\33*c5F", "\33*c1F", "\33*c2F", "\33)s14W\0\1\0\0\1\0\0\0\1\0\0\0\0\0",
        "\33(s10W\0\0\0\0\0\0\0\0\0\0", "\33*c65e3F", "\33*c66e3F", "\33*c0e3F"};
    private static final String[] CHOICE = choice();

    private LeftAloneTest() {
    }

    /* Of the fonts each has all of a wish but one thing, which is that of another wish. */
    private static String[] choice() {
        List<String> all = new ArrayList<>();
        for (int a = 0; a < 7; a++) {
            StringBuilder fonts = new StringBuilder("\33*cF");
            int id = 11;
            for (int[] wish : WISHES) {
                for (int[] other : WISHES) {
                    int[] font = wish.clone();
                    font[a] = other[a];
                    fonts.append(id < 11 + 25 ? Tester.font(id, font) : "");
                    id++;
                }
            }
            all.add(fonts.toString());
        }
        all.add("\33*cF" + Tester.font(3, 1, 1, 1, 1, 1, 1, 1) + Tester.font(2, 1, 1, 1, 1, 1, 1, 1) + Tester.font(1, WISHES[4]));
        return all.toArray(new String[0]);
    }

    private static List<String> things() {
        List<String> all = new ArrayList<>(List.of("", "A", "B", " ", "\33E", "\0339", "\33=", "\33Z", "\33\1"));
        for (char c = 0; c < 27; c++) {
            all.add("" + c);
        }
        String[] commands = {"&lA", "&lO", "&lX", "&lC", "&lD", "&lE", "&lF", "&lL", "&kH", "&kG", "&aL", "&aM", "&sC", "&fS", "&aC", "&aH",
            "*pX", "&aR", "&aV", "*pY", "*cD", "*cE", "*cF", "(sP", "(sH", "(sV", "(sS", "(sB", "(sT", ")sP", ")sH", ")sV", ")sS",
            ")sB", ")sT", "(X", ")X", "(U", ")E", "*cA", "*cH", "*cB", "*cV", "*cG", "*cP", "*vT", "*vN", "*vO", "*tR", "*rS", "*rT",
            "*rA", "*bM", "*bY", "*rB", "*rC", "&fY", "&fX"};
        for (String command : commands) {
            int at = command.length() - 1;
            boolean many = command.equals("&fX") || command.equals("*cF") || command.equals("&lD");
            for (String value : (many ? "0 1 2 3 4 5 6 7 8 9 10 12 -1 +7.5 300" : "0 1 2 3 4 5 -1 +7.5 300").split(" ")) {
                String end = command.equals("&fX") && value.equals("0") ? "ZZ\33&f1X" : "";
                all.add("\33" + command.substring(0, at) + value + command.substring(at) + end);
            }
        }
        all.addAll(List.of("\33&p4XA\n\33B", "\33*b3W\2\125\252", "\33*b9W123456789", "\33*b0W", "\33*b-3W", "\33(s3WABC", "\33(s10W\0\0\0\0\0\1\0\1\1\0",
                "\33)s5WABCDE", Tester.font(1, 5, 0, 9, 9, 9, 1, 9), Tester.font(2, 5, 0, 9, 9, 9, 1, 9), Tester.font(9, 5, 1, 9, 9, 9, 1, 9),
                "\33(9W123456789", "\33%3W\33E;", "\33%g3w\33E;2WAB", "\33&f9y0x6XZZ\33&f1X", "\33&f9y0x8XZZ\33&f1X", "\33&f9y0x5y0XZZ\33&f1X",
                "\33&f5y0x9x10XZZ\33&f1X", "\33&f5y2x6y3X", "\33&f8y7y3x8y2X", "\33&a", "\33&a5", "\33*", "\33", "\33*b5Wabc", "\33&p9Xabc", "\33&f5y0Xab",
                "\33&f5y8x2", "\33&l1", "\33(s2", "\33)3"));
        return all;
    }

    /** What is not said in a stream. */
    private static List<Consumer<Tester>> calls() {
        Pictures good = new Pictures(73);
        good.plain(9, 2, 170, 128, 85, 0);
        good.packed(9, 1, "001 1011 11 1");
        Pictures second = new Pictures(77);
        second.plain(9, 1, 1, 128);
        second.plain(9, 2, 1, 2, 3);
        return List.of(t -> t.file(good.file()), t -> t.file(second.file()), t -> t.file(new byte[0]), t -> t.submit(2, 1), t -> t.submit(0, 0),
                t -> t.submit(0, 20), t -> t.conclude(), t -> {
                    t.file(second.file());
                    t.submit(0, 20);
                    t.conclude();
                }, t -> {
                    t.tape(1, 2, 3, 4, 5);
                    t.submit(1, 21);
                    t.conclude();
                }, t -> {
                    t.conclude();
                    t.conclude();
                }, t -> t.stream("\33&l20X\f\f\fA"), t -> {
                    t.stream("\33&l20X\f\f\fA");
                    t.conclude();
                }, t -> t.stream(Tester.rules(4097)).file(good.file()));
    }

    private static void look(String setup, Consumer<Tester> thing, String[] streams) {
        Tester t = new Tester(150, 100);
        t.stream(setup);
        thing.accept(t);
        for (String stream : streams) {
            t.stream(stream);
        }
        t.conclude();
    }

    private static void look(String setup, Consumer<Tester> thing) {
        look(setup, thing, MARKS);
        look(setup, thing, TEXT);
        look(setup, thing, STORES);
        look(setup, thing, CHOICE);
    }

    public static void main(String[] args) {
        List<String> things = things();
        int stride = 1;
        for (String setup : SETUPS) {
            for (Consumer<Tester> call : calls()) {
                look(setup, call);
            }
            // and each one ahead of another, of which there are too many to take all
            stride += 36;
            for (int i = 0; i < things.size(); i++) {
                String thing = things.get(i);
                String behind = things.get(i * stride % things.size());
                look(setup, t -> t.stream(thing));
                look(setup, t -> t.stream(thing + behind));
            }
        }
        Tester.end();
    }
}
