import java.util.ArrayList;
import java.util.List;

/** Writes a picture file by hand: bytes, and directories of entries as they are told, right or wrong. */
final class Pictures {
    private final boolean high;
    private final List<Integer> bytes = new ArrayList<>();
    private int link = 4;

    Pictures(int order) {
        high = order == 77;
        add(order * 257L, 2);
        add(42, 2);
        add(0, 4);
    }

    private void add(long n, int size) {
        for (int i = 0; i < size; i++) {
            bytes.add((int) (n >> 8 * (high ? size - 1 - i : i) & 255));
        }
    }

    int size() {
        return bytes.size();
    }

    /** Adds bytes, and tells where they are. */
    int put(int... all) {
        int place = bytes.size();
        for (int b : all) {
            bytes.add(b & 255);
        }
        return place;
    }

    /** Adds the bits of a text, and tells where they are. */
    int bits(String text) {
        String all = text.replace(" ", "");
        int place = bytes.size();
        for (int i = 0; i < all.length(); i += 8) {
            bytes.add(Integer.parseInt((all.substring(i) + "00000000").substring(0, 8), 2));
        }
        return place;
    }

    int numbers(int size, long... all) {
        int place = bytes.size();
        for (long n : all) {
            add(n, size);
        }
        return place;
    }

    Pictures set(int place, long n, int size) {
        List<Integer> end = new ArrayList<>(bytes);
        bytes.clear();
        add(n, size);
        for (int i = 0; i < size; i++) {
            end.set(place + i, bytes.get(i));
        }
        bytes.clear();
        bytes.addAll(end);
        return this;
    }

    /** Adds a directory of entries TAG, TYPE, COUNT, and one or two numbers; tells where it is. */
    int page(long[]... entries) {
        if (bytes.size() % 2 == 1) {
            bytes.add(0);
        }
        int place = bytes.size();
        set(link, place, 4);
        add(entries.length, 2);
        for (long[] e : entries) {
            add(e[0], 2);
            add(e[1], 2);
            add(e[2], 4);
            int size = e[1] == 3 && e[2] <= 2 ? 2 : 4;
            add(e[3], size);
            if (size == 2) {
                add(e.length > 4 ? e[4] : 0, 2);
            }
        }
        link = bytes.size();
        add(0, 4);
        return place;
    }

    /** A page of one strip of coded lines. */
    int packed(int width, int height, String bits) {
        int place = bits(bits);
        return page(new long[] {256, 3, 1, width}, new long[] {257, 3, 1, height}, new long[] {259, 3, 1, 4},
                new long[] {273, 4, 1, place}, new long[] {279, 4, 1, bytes.size() - place});
    }

    int plain(int width, int height, int... dots) {
        int place = put(dots);
        return page(new long[] {256, 3, 1, width}, new long[] {257, 3, 1, height}, new long[] {273, 4, 1, place},
                new long[] {279, 4, 1, dots.length});
    }

    byte[] file() {
        byte[] file = new byte[bytes.size()];
        for (int i = 0; i < file.length; i++) {
            file[i] = (byte) (int) bytes.get(i);
        }
        return file;
    }
}
