import java.io.ByteArrayOutputStream;
import java.util.ArrayList;
import java.util.BitSet;
import java.util.List;
import java.util.Random;

/** Makes streams and picture files by chance, from a seed. */
final class Maker {
    final Random r;
    private final ByteArrayOutputStream out = new ByteArrayOutputStream();

    Maker(long seed) {
        r = new Random(seed);
    }

    private void put(String text) {
        for (int i = 0; i < text.length(); i++) {
            out.write(text.charAt(i));
        }
    }

    private String number(int bound) {
        String n = String.valueOf(r.nextInt(bound));
        switch (r.nextInt(12)) {
            case 0: return "+" + n;
            case 1: return "-" + n;
            case 2: return n + "." + r.nextInt(100000);
            case 3: return "-" + n + "." + r.nextInt(1000);
            case 4: return r.nextInt(4) == 0 ? "" : n;
            case 5: return r.nextInt(8) == 0 ? "99999999" : n;
            case 6: return r.nextInt(4) == 0 ? n + "." : n;
            case 7: return r.nextInt(4) == 0 ? "." + n : n;
            default: return n;
        }
    }

    private String pick(String... all) {
        return all[r.nextInt(all.length)];
    }

    byte[] stream(int pieces) {
        out.reset();
        for (int i = 0; i < pieces; i++) {
            piece(0);
        }
        return out.toByteArray();
    }

    private void piece(int depth) {
        switch (r.nextInt(24)) {
            case 0: case 1: case 2: characters(); break;
            case 3: put(pick("\n", "\r", "\t", "\b", "\16", "\17", "\r\n", "\7", "\0")); break;
            case 4: put(r.nextInt(6) == 0 ? "\f" : "\n"); break;
            case 5: case 6: place(); break;
            case 7: layout(); break;
            case 8: case 9: font(); break;
            case 10: case 11: case 12: glyph(); break;
            case 13: wish(); break;
            case 14: case 15: rule(); break;
            case 16: case 17: case 18: raster(); break;
            case 19: ink(); break;
            case 20: case 21: macro(depth); break;
            case 22: text(); break;
            default: rubbish(); break;
        }
    }

    private void characters() {
        int n = 1 + r.nextInt(12);
        for (int i = 0; i < n; i++) {
            out.write(r.nextInt(8) == 0 ? 32 + r.nextInt(224) : r.nextInt(6) == 0 ? 32 : 'A' + r.nextInt(6));
        }
    }

    /** One sequence of several fields of one family and group. */
    private void sequence(String head, String[] ends, int[] bounds) {
        put("\33" + head);
        int fields = 1 + r.nextInt(3);
        for (int i = 0; i < fields; i++) {
            int k = r.nextInt(ends.length);
            boolean last = i == fields - 1 && r.nextInt(15) != 0;
            put(number(bounds[k]));
            put(last ? ends[k] : ends[k].toLowerCase());
        }
        if (r.nextInt(30) == 0) {
            put(pick("\1", " ", "_", "\177", "\33", "\33\33", "\33 ", "5+1A"));
        }
    }

    private void place() {
        if (r.nextBoolean()) {
            sequence("&a", new String[] {"C", "H", "R", "V", "L", "M"}, new int[] {90, 6500, 70, 7500, 30, 100});
        } else {
            sequence("*p", new String[] {"X", "Y"}, new int[] {2500, 3300});
        }
        if (r.nextInt(4) == 0) {
            put("\33&f" + r.nextInt(3) + "S");
        }
        if (r.nextInt(5) == 0) {
            put(pick("\0339", "\33=", "\33=", "\33E", "\33Z"));
        }
    }

    private void layout() {
        switch (r.nextInt(8)) {
            case 0: put("\33&l" + pick("1", "2", "3", "6", "26", "0", "5", "27") + "A"); break;
            case 1: put("\33&l" + r.nextInt(5) + "O"); break;
            case 2: put("\33&l" + pick("0", "1", "2", "3", "1", "1") + "X"); break;
            case 3: put("\33&k" + r.nextInt(5) + "G\33&s" + r.nextInt(3) + "C"); break;
            case 4: put("\33&l" + pick("1", "2", "3", "4", "5", "6", "8", "12", "16", "24", "48") + "D"); break;
            case 5: put("\33&l" + r.nextInt(3) + "L"); break;
            case 6: sequence("&k", new String[] {"H", "G"}, new int[] {30, 4}); break;
            default: sequence("&l", new String[] {"C", "E", "F", "L"}, new int[] {24, 70, 70, 3}); break;
        }
    }

    private void two(int n) {
        out.write(n >> 8);
        out.write(n);
    }

    private void font() {
        if (r.nextInt(3) == 0) {
            put("\33*c" + r.nextInt(6) + "d" + number(7) + "F");
            return;
        }
        int extra = r.nextInt(3) - 1;
        put("\33*c" + r.nextInt(5) + "D\33)s" + (14 + extra) + "W");
        two(r.nextInt(30) == 0 ? 2048 : 275 + r.nextInt(4));
        out.write(r.nextInt(20) == 0 ? 2 : r.nextInt(2));
        two(r.nextInt(30) == 0 ? 57601 : r.nextInt(20) == 0 ? 0 : 800 + 100 * r.nextInt(5));
        two(r.nextInt(60) == 0 ? 1 : 0);
        two(r.nextInt(30) == 0 ? 0 : 1000 + 100 * r.nextInt(5));
        two(r.nextInt(30) == 0 ? 40000 : r.nextInt(3));
        out.write(r.nextInt(20) == 0 ? 8 : r.nextInt(15) - 7);
        if (extra < 0) {
            out.write(0);
        } else {
            two(r.nextInt(5));
        }
        for (int i = 0; i < extra; i++) {
            out.write(r.nextInt(256));
        }
    }

    private void glyph() {
        int width = r.nextInt(15) == 0 ? 127 + r.nextInt(3) : r.nextInt(20);
        int depth = r.nextInt(15) == 0 ? r.nextInt(40) : r.nextInt(10);
        int dots = Math.max(0, depth * ((width + 7) / 8) + (r.nextInt(4) == 0 ? r.nextInt(5) - 2 : 0));
        int code = r.nextInt(12) == 0 ? r.nextInt(300) : 'A' + r.nextInt(6);
        put("\33*c" + r.nextInt(5) + "d" + code + "E\33(s" + (10 + dots) + "W");
        two(r.nextInt(20) == 0 ? r.nextInt(65536) : r.nextInt(20) - 10);
        two(r.nextInt(20) == 0 ? r.nextInt(65536) : r.nextInt(20) - 10);
        two(width);
        two(depth);
        two(r.nextInt(20) == 0 ? r.nextInt(65536) : r.nextInt(2500));
        for (int i = 0; i < dots; i++) {
            out.write(r.nextInt(256));
        }
    }

    private void wish() {
        String head = pick("(", ")");
        switch (r.nextInt(3)) {
            case 0: put("\33" + head + r.nextInt(6) + "X"); break;
            case 1: put("\33" + head + pick("8U", "8S", "8T", "8V", "0@", "63W", "64A", "7V", "8W")); break;
            default: sequence(head + "s", new String[] {"P", "H", "V", "S", "B", "T"}, new int[] {3, 14, 15, 4, 9, 6}); break;
        }
    }

    private void rule() {
        sequence("*c", new String[] {"A", "B", "H", "V", "G"}, new int[] {200, 200, 800, 800, 105});
        if (r.nextInt(20) == 0) {
            put("\33*c32000a32000B");
        }
        put("\33*c" + (r.nextInt(3) == 0 ? r.nextInt(8) + "g" : "") + number(7) + "P");
    }

    private void ink() {
        put("\33*c" + pick(String.valueOf(r.nextInt(104)), String.valueOf(r.nextInt(8))) + "G");
        sequence("*v", new String[] {"T", "N", "O"}, new int[] {5, 3, 3});
    }

    private void raster() {
        switch (r.nextInt(6)) {
            case 0: put("\33*t" + pick("75", "100", "150", "300", "200") + "R"); break;
            case 1: sequence("*r", new String[] {"S", "T"}, new int[] {200, 20}); break;
            case 2: put("\33*r" + r.nextInt(3) + pick("A", "A", "B", "C")); break;
            default: break;
        }
        int rows = r.nextInt(5);
        for (int i = 0; i < rows; i++) {
            put("\33*b");
            if (r.nextInt(3) == 0) {
                put(number(5) + "m");
            }
            if (r.nextInt(5) == 0) {
                put(number(9) + "y");
            }
            int n = r.nextInt(40) == 0 ? 700 : r.nextInt(14);
            put(n + "W");
            for (int k = 0; k < n; k++) {
                out.write(r.nextInt(3) == 0 ? r.nextInt(256) : r.nextInt(3) == 0 ? 255 : r.nextInt(40));
            }
        }
    }

    private void macro(int depth) {
        String id = "\33&f" + r.nextInt(4) + "y";
        switch (r.nextInt(4)) {
            case 0:
                if (depth < 2) {
                    put(id + "0" + pick("X", "X", "x2X", "x1X", "x0X", "x\33", "x_"));
                    int pieces = r.nextInt(4);
                    for (int i = 0; i < pieces; i++) {
                        piece(depth + 1);
                    }
                    if (r.nextInt(3) == 0) {
                        put(pick("\33", "\33&", "\33&f2x", "\33&f3y2x1", "\33*b5w", "\33&p9X", "\33&a5"));
                    }
                    if (r.nextInt(10) != 0) {
                        put("\33&f1X");
                    }
                }
                break;
            case 1: put(id + pick("2X", "3X", "2x3X", "3x2x1y3X", "2x2W!!", "3x\33")); break;
            case 2: put(id + r.nextInt(12) + "X"); break;
            default: put(id + "2x2x3x2x3x9x10x2x2x3X"); break;
        }
    }

    private void text() {
        int n = r.nextInt(6);
        put("\33&p" + n + pick("X", "x"));
        for (int i = 0; i < n; i++) {
            out.write(r.nextInt(256));
        }
    }

    private void rubbish() {
        int n = r.nextInt(5);
        if (r.nextInt(3) == 0) {
            put("\33");
        }
        for (int i = 0; i < n; i++) {
            out.write(r.nextInt(2) == 0 ? r.nextInt(256) : 33 + r.nextInt(94));
        }
    }

    // ---- picture files

    private void number(List<Integer> to, boolean high, long n, int size) {
        for (int i = 0; i < size; i++) {
            to.add((int) (n >> 8 * (high ? size - 1 - i : i) & 255));
        }
    }

    private static void set(List<Integer> at, int place, List<Integer> what) {
        for (int i = 0; i < what.size(); i++) {
            at.set(place + i, what.get(i));
        }
    }

    private BitSet[] picture(int width, int height) {
        BitSet[] lines = new BitSet[height];
        int style = r.nextInt(4);
        for (int j = 0; j < height; j++) {
            BitSet line = j > 0 && r.nextInt(3) > 0 ? (BitSet) lines[j - 1].clone() : new BitSet();
            int changes = style == 0 ? 0 : style == 1 ? 2 : style == 2 ? 8 : width / 3;
            for (int k = 0; k < changes; k++) {
                int from = r.nextInt(width);
                int to = Math.min(width, from + 1 + r.nextInt(style == 3 ? 3 : width));
                line.set(from, to, r.nextBoolean());
            }
            lines[j] = line;
        }
        return lines;
    }

    /** A picture file with a few pages; by chance a few of its bytes are wrong. */
    byte[] pictures() {
        boolean high = r.nextBoolean();
        List<Integer> f = new ArrayList<>();
        number(f, high, high ? 77 * 257 : 73 * 257, 2);
        number(f, high, 42, 2);
        number(f, high, 0, 4);
        int link = 4;
        int pages = r.nextInt(3) == 0 ? 1 + r.nextInt(4) : 1;
        for (int p = 0; p < pages; p++) {
            link = page(f, high, link);
        }
        int wrong = r.nextInt(3) == 0 ? 1 + r.nextInt(3) : 0;
        for (int i = 0; i < wrong; i++) {
            f.set(r.nextInt(f.size()), r.nextInt(3) == 0 ? 0 : r.nextInt(256));
        }
        if (r.nextInt(30) == 0) {
            f = f.subList(0, r.nextInt(f.size()));
        }
        byte[] bytes = new byte[f.size()];
        for (int i = 0; i < bytes.length; i++) {
            bytes[i] = (byte) (int) f.get(i);
        }
        return bytes;
    }

    private int page(List<Integer> f, boolean high, int link) {
        int width = r.nextInt(12) == 0 ? 1 + r.nextInt(11000) : r.nextInt(40) == 0 ? 10001 : 1 + r.nextInt(150);
        int height = 1 + r.nextInt(r.nextInt(20) == 0 ? 60 : 12);
        int rows = r.nextInt(3) == 0 ? 1 + r.nextInt(height) : height;
        boolean packed = r.nextInt(3) > 0;
        boolean turned = r.nextInt(4) == 0;
        BitSet[] lines = width > 10000 ? new BitSet[0] : picture(width, height);
        List<Long> places = new ArrayList<>();
        List<Long> lengths = new ArrayList<>();
        for (int first = 0; first < height; first += rows) {
            StringBuilder bits = new StringBuilder();
            BitSet above = new BitSet();
            for (int j = first; j < Math.min(height, first + rows) && j < lines.length; j++) {
                if (packed) {
                    PlainPrinter.codeLine(bits, above, lines[j], width);
                    above = lines[j];
                } else {
                    for (int x = 0; x < (width + 7) / 8 * 8; x++) {
                        bits.append(lines[j].get(x) || x >= width && r.nextBoolean() ? '1' : '0');
                    }
                }
            }
            if (packed && r.nextInt(4) == 0) {
                bits.insert(r.nextInt(20) == 0 ? 0 : bits.length(), PlainPrinter.END + PlainPrinter.END);
            }
            while (bits.length() % 8 != 0) {
                bits.append('0');
            }
            places.add((long) f.size());
            lengths.add((long) bits.length() / 8);
            for (int i = 0; i < bits.length(); i += 8) {
                StringBuilder eight = new StringBuilder(bits.substring(i, i + 8));
                f.add(Integer.parseInt((turned ? eight.reverse() : eight).toString(), 2));
            }
            if (packed && r.nextInt(6) == 0 && bits.length() > 0) {
                f.set(f.size() - 1 - r.nextInt(bits.length() / 8), r.nextInt(256));
            }
        }
        return directory(f, high, link, new long[] {width, height, packed ? 4 : 1, r.nextInt(2), turned ? 2 : 1, rows}, places, lengths);
    }

    private int directory(List<Integer> f, boolean high, int link, long[] numbers, List<Long> places, List<Long> lengths) {
        List<List<Long>> entries = new ArrayList<>();
        int longOrShort = 3 + r.nextInt(2);
        entries.add(List.of(254L, 9L, 77L));
        entries.add(List.of(256L, (long) longOrShort, numbers[0]));
        entries.add(List.of(257L, (long) 7 - longOrShort, numbers[1]));
        if (numbers[2] == 4 || r.nextBoolean()) {
            entries.add(List.of(259L, 3L, numbers[2]));
        }
        if (r.nextInt(4) > 0) {
            entries.add(List.of(262L, 3L, numbers[3]));
        }
        if (numbers[4] == 2 || r.nextBoolean()) {
            entries.add(List.of(266L, 3L, numbers[4]));
        }
        entries.add(several(273L, places));
        if (places.size() > 1 || r.nextBoolean()) {
            entries.add(List.of(278L, (long) longOrShort, places.size() == 1 && r.nextInt(4) == 0 && longOrShort == 4 ? 4294967295L : numbers[5]));
        }
        entries.add(several(279L, lengths));
        if (r.nextBoolean()) {
            entries.add(List.of(282L, 5L, (long) r.nextInt(1000), (long) r.nextInt(8)));
        }
        if (r.nextBoolean()) {
            entries.add(List.of(283L, 5L, r.nextInt(3) == 0 ? 4294967295L : 600L, 1L + r.nextInt(8)));
        }
        if (r.nextBoolean()) {
            entries.add(List.of(296L, 3L, (long) (r.nextInt(10) == 0 ? r.nextInt(5) : 2)));
        }
        if (r.nextBoolean()) {
            entries.remove(0);
        }
        if (r.nextInt(40) == 0) {
            entries.remove(r.nextInt(entries.size()));
        }
        return write(f, high, link, entries);
    }

    private List<Long> several(long tag, List<Long> values) {
        List<Long> entry = new ArrayList<>(List.of(tag, r.nextBoolean() ? 4L : 3L));
        entry.addAll(values);
        return entry;
    }

    private int write(List<Integer> f, boolean high, int link, List<List<Long>> entries) {
        List<Integer> places = new ArrayList<>();
        for (List<Long> e : entries) {
            int size = e.get(1) == 3 ? 2 : 4;
            places.add(f.size());
            if ((e.size() - 2) * size > 4) {
                for (int i = 2; i < e.size(); i++) {
                    number(f, high, e.get(i), size);
                }
            }
        }
        if (f.size() % 2 == 1) {
            f.add(0);
        }
        List<Integer> place = new ArrayList<>();
        number(place, high, f.size(), 4);
        set(f, link, place);
        number(f, high, entries.size(), 2);
        for (int k = 0; k < entries.size(); k++) {
            List<Long> e = entries.get(k);
            int size = e.get(1) == 3 ? 2 : 4;
            number(f, high, e.get(0), 2);
            number(f, high, e.get(1), 2);
            number(f, high, e.get(1) == 5 ? 1 : e.size() - 2, 4);
            int from = f.size();
            if ((e.size() - 2) * size > 4) {
                number(f, high, places.get(k), 4);
            } else {
                for (int i = 2; i < e.size(); i++) {
                    number(f, high, e.get(i), size);
                }
            }
            while (f.size() < from + 4) {
                f.add(0);
            }
        }
        int next = f.size();
        number(f, high, 0, 4);
        return next;
    }
}
