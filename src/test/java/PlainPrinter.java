import java.util.ArrayList;
import java.util.Arrays;
import java.util.BitSet;
import java.util.HashMap;
import java.util.List;
import java.util.Map;
import java.util.TreeMap;

/**
 * The printer once more, as the document says it word by word and without regard to time or room:
 * whole sheets, dots painted one by one, codes as texts. Tests hold SheetPrinter against it.
 */
final class PlainPrinter {
    final int dpi;
    List<Integer> tape = new ArrayList<>();
    int fault;
    int ended;
    int overrunSheets;
    int picturesComeTo;

    // ---- the file of the job, and the one that can be seen
    static final class Made {
        List<Integer> bytes = new ArrayList<>();
        List<int[]> pages = new ArrayList<>();
        List<BitSet[]> dots = new ArrayList<>();
        int link = 4;
    }

    Made made = begun();
    Made seen = new Made();

    static Made begun() {
        Made m = new Made();
        for (int b : new int[] {73, 73, 42, 0, 0, 0, 0, 0}) {
            m.bytes.add(b);
        }
        return m;
    }

    // ---- the page and the state
    static final Map<Integer, int[]> SIZES = Map.of(1, new int[] {52200, 75600}, 2, new int[] {61200, 79200},
            3, new int[] {61200, 100800}, 6, new int[] {79200, 122400}, 26, new int[] {59528, 84189});

    static final class State implements Cloneable {
        int top, length, left, right, h, v, x, y, lineEnd, font;
        boolean wrap, skip;
        List<int[]> stack = new ArrayList<>();

        State copy() {
            State s = new State();
            s.top = top; s.length = length; s.left = left; s.right = right; s.h = h; s.v = v; s.x = x; s.y = y;
            s.lineEnd = lineEnd; s.font = font; s.wrap = wrap; s.skip = skip;
            s.stack = new ArrayList<>(stack);
            return s;
        }
    }

    State s = new State();
    int size;
    int orientation;
    int copies;

    // ---- the sheet
    BitSet[] sheet;
    int marks;
    int markBytes;
    boolean overrun;
    boolean due;

    // ---- others
    int inkKind, inkNumber, ruleWidth, ruleHeight, pattern;
    boolean sourceOpaque, inkOpaque;

    static final class Font {
        int id;
        int[] attributes;
        boolean permanent;
        Map<Integer, Glyph> glyphs = new TreeMap<>();
    }

    static final class Glyph {
        int left, top, width, depth, step;
        int[] bytes;
    }

    List<Font> shelf = new ArrayList<>();
    int fontId, fontCode;
    int[][] wish = new int[2][];
    Integer[] pin = new Integer[2];

    static final class Macro {
        int id;
        int[] bytes;
        boolean permanent;
    }

    List<Macro> macros = new ArrayList<>();
    int macroId;
    int had;
    boolean reading;
    int readingId;
    List<Integer> readBytes = new ArrayList<>();

    boolean rasterOpen;
    int rasterX, rasterY, rasterWidth, rasterHeight, rasterRow, scale, resolution, method, nextWidth, nextHeight;
    int[] seed;

    PlainPrinter(int dpi, int band) {
        this.dpi = dpi >= 300 ? 300 : dpi >= 150 ? 150 : 75;
        reset();
        freshOthers();
        whiteSheet();
    }

    // ---- the face
    boolean tape(int a, int b, int c, int d, int e) {
        if (tape.size() + 20 > 65536) {
            return false;
        }
        for (int n : new int[] {a, b, c, d, e}) {
            tape.add(n >>> 24);
            tape.add(n >>> 16 & 255);
            tape.add(n >>> 8 & 255);
            tape.add(n & 255);
        }
        return true;
    }

    int submit(int kind, int n) {
        if (kind != 0 && kind != 1 || n < 1 || n > 20) {
            throw new IllegalArgumentException();
        }
        if (fault != 0) {
            throw new IllegalStateException();
        }
        List<Integer> part = tape.isEmpty() ? tape : tape.subList(0, tape.size() - 20 + n);
        if (kind == 0) {
            for (int i = 0; i < part.size() && fault == 0; i++) {
                feed(part.get(i), 0);
            }
        } else {
            readPictureFile(part);
        }
        tape = new ArrayList<>();
        return made.pages.size();
    }

    int conclude() {
        mode = "plain";
        said = new ArrayList<>();
        reading = false;
        if (fault == 0) {
            ejectIfDue();
        }
        whiteSheet();
        reset();
        shelf.removeIf(f -> !f.permanent);
        macros.removeIf(m -> !m.permanent);
        tape = new ArrayList<>();
        freshOthers();
        seen = made;
        made = begun();
        int told = fault;
        fault = 0;
        ended++;
        overrunSheets = 0;
        had = 0;
        whiteSheet();
        return told;
    }

    long bytesAt(int k) {
        long all = 0;
        for (int i = 0; i < 8; i++) {
            long place = 8L * k + i;
            all = all * 256 + (place >= 0 && place < seen.bytes.size() ? seen.bytes.get((int) place) : 0);
        }
        return all;
    }

    int sheetOf(int p, int w) {
        if (p < 0 || p >= seen.pages.size() || w < 0 || w > 3) {
            throw new IndexOutOfBoundsException();
        }
        return seen.pages.get(p)[w];
    }

    long printed(int p, int y, int k) {
        if (p < 0 || p >= seen.pages.size() || y < 0 || y >= seen.pages.get(p)[1]) {
            return 0;
        }
        long all = 0;
        for (int i = 0; i < 64; i++) {
            long x = 64L * k + i;
            boolean black = x >= 0 && x < seen.pages.get(p)[0] && seen.dots.get(p)[y].get((int) x);
            all = all << 1 | (black ? 1 : 0);
        }
        return all;
    }

    int status(int which) {
        return switch (which) {
            case 0 -> dpi;
            case 1 -> tape.size();
            case 2 -> made.pages.size();
            case 3 -> fault;
            case 4 -> marks;
            case 5 -> markBytes;
            case 6 -> overrun ? 1 : 0;
            case 7 -> s.x;
            case 8 -> s.y;
            case 9 -> size;
            case 10 -> orientation;
            case 11 -> s.font;
            case 12 -> shelf.size();
            case 13 -> shelf.stream().mapToInt(f -> f.glyphs.size()).sum();
            case 14 -> chosen(0) == null ? -1 : chosen(0).id;
            case 15 -> chosen(1) == null ? -1 : chosen(1).id;
            case 16 -> macros.size();
            case 17 -> macros.stream().mapToInt(m -> m.bytes.length).sum();
            case 18 -> reading ? 1 : 0;
            case 19 -> had;
            case 20 -> rasterOpen ? 1 : 0;
            case 21 -> rasterOpen ? rasterRow : -1;
            case 22 -> seen.bytes.size();
            case 23 -> seen.pages.size();
            case 24 -> ended;
            case 25 -> overrunSheets;
            default -> -1;
        };
    }

    // ---- the state
    int width() {
        int[] z = SIZES.get(size);
        return orientation == 0 || orientation == 2 ? z[0] - 3600 : z[1] - 2880;
    }

    int height() {
        int[] z = SIZES.get(size);
        return orientation == 0 || orientation == 2 ? z[1] : z[0];
    }

    int sheetW() {
        return SIZES.get(size)[0] * dpi / 7200;
    }

    int sheetH() {
        return SIZES.get(size)[1] * dpi / 7200;
    }

    void reset() {
        size = 2;
        orientation = 0;
        s.h = 720;
        s.v = 1200;
        defaults();
        s.wrap = false;
        s.skip = false;
        s.lineEnd = 0;
        copies = 1;
        s.font = 0;
        s.stack = new ArrayList<>();
    }

    void defaults() {
        s.top = 3600;
        s.length = height() - 7200;
        s.left = 0;
        s.right = width();
        x(0);
        y(home());
    }

    int home() {
        return s.top + s.v * 3 / 4;
    }

    void x(long v) {
        s.x = (int) (v < 0 ? 0 : v > width() ? width() : v);
    }

    void y(long v) {
        s.y = (int) (v < 0 ? 0 : v > height() ? height() : v);
    }

    void freshOthers() {
        inkKind = 0;
        inkNumber = 0;
        sourceOpaque = false;
        inkOpaque = false;
        ruleWidth = 0;
        ruleHeight = 0;
        pattern = 0;
        fontId = 0;
        fontCode = 0;
        macroId = 0;
        rasterOpen = false;
        nextWidth = 0;
        nextHeight = 0;
        resolution = 75;
        method = 0;
        for (int f = 0; f < 2; f++) {
            wish[f] = new int[] {277, 0, 1000, 1200, 0, 0, 3};
            pin[f] = null;
        }
    }

    void whiteSheet() {
        sheet = null;
        marks = 0;
        markBytes = 0;
        overrun = false;
        due = false;
    }

    void eject() {
        if (overrun) {
            overrunSheets++;
        }
        boolean[] white = new boolean[sheetW()];
        BitSet[] lines = new BitSet[sheetH()];
        for (int j = 0; j < lines.length; j++) {
            lines[j] = sheet == null ? new BitSet() : sheet[j];
        }
        String code = code(lines, white.length);
        for (int copy = 0; copy < copies && fault == 0; copy++) {
            addPage(lines, white.length, code, dpi, dpi);
        }
        whiteSheet();
        y(home());
    }

    void ejectIfDue() {
        if (due) {
            eject();
        }
    }

    // ---- the stream
    String mode = "plain";
    int family, group, end;
    String field = "";
    long value;
    boolean signed;
    boolean lastField;
    int dataLeft;
    List<Integer> data = new ArrayList<>();
    List<int[]> said = new ArrayList<>();

    void feed(int b, int depth) {
        boolean again = true;
        while (again && fault == 0) {
            again = false;
            if (depth == 0 && reading) {
                collect(b);
            } else if (b == 27 && (mode.equals("family") || mode.equals("field"))) {
                mode = "plain";
                sequenceEnds(depth);
                again = true;
            } else {
                part(b, depth);
            }
        }
    }

    void part(int b, int depth) {
        switch (mode) {
            case "plain":
                if (b == 27) {
                    mode = "esc";
                } else if (b >= 32) {
                    character(b);
                } else {
                    control(b);
                }
                return;
            case "esc":
                if (b == 27) {
                    return;
                }
                mode = "plain";
                if (b >= 48 && b <= 126) {
                    shortSequence(b);
                } else if (b >= 33 && b <= 47) {
                    family = b;
                    mode = "family";
                }
                return;
            case "family":
                mode = "field";
                field = "";
                group = 0;
                if (b >= 96 && b <= 126) {
                    group = b;
                    return;
                }
                inField(b, depth);
                return;
            case "field":
                inField(b, depth);
                return;
            case "data":
                data.add(b);
                if (--dataLeft == 0) {
                    command();
                    fieldDone(depth);
                }
                return;
            default:
                character(b);
                if (--dataLeft == 0) {
                    fieldDone(depth);
                }
        }
    }

    void inField(int b, int depth) {
        if (b >= 64 && b <= 126 && b != 95) {
            endField(b, depth);
            return;
        }
        String longer = field + (char) b;
        if (b < 127 && longer.matches("[+-]?[0-9]*([.][0-9]*)?")) {
            field = longer;
            return;
        }
        mode = "plain";
        sequenceEnds(depth);
    }

    void endField(int b, int depth) {
        lastField = b <= 94;
        end = lastField ? b : b - 32;
        signed = field.startsWith("+") || field.startsWith("-");
        boolean negative = field.startsWith("-");
        String digits = signed ? field.substring(1) : field;
        int point = digits.indexOf('.');
        String whole = point < 0 ? digits : digits.substring(0, point);
        String behind = ((point < 0 ? "" : digits.substring(point + 1)) + "0000").substring(0, 4);
        long w = whole.isEmpty() ? 0 : new java.math.BigInteger(whole).min(java.math.BigInteger.valueOf(32767)).longValue();
        value = w * 10000 + Integer.parseInt(behind);
        if (negative) {
            value = -value;
        }
        boolean text = family == '&' && group == 'p' && end == 'X';
        dataLeft = negative ? 0 : (int) w;
        data = new ArrayList<>();
        if ((text || end == 'W') && dataLeft > 0) {
            mode = text ? "text" : "data";
            return;
        }
        command();
        fieldDone(depth);
    }

    void fieldDone(int depth) {
        field = "";
        mode = lastField ? "plain" : "field";
        if (lastField) {
            sequenceEnds(depth);
        }
    }

    void sequenceEnds(int depth) {
        List<int[]> list = said;
        said = new ArrayList<>();
        for (int[] act : list) {
            if (fault == 0) {
                macroAct(act[0], act[1], depth);
            }
        }
    }

    void macroAct(int n, int id, int depth) {
        Macro m = macros.stream().filter(o -> o.id == id).findFirst().orElse(null);
        if (n == 0 && depth == 0) {
            macros.remove(m);
            reading = true;
            readingId = id;
            readBytes = new ArrayList<>();
        } else if ((n == 2 || n == 3) && m != null && depth < 2 && had + m.bytes.length <= 65536) {
            had += m.bytes.length;
            State kept = s.copy();
            for (int b : m.bytes) {
                feed(b, depth + 1);
            }
            if (n == 3 && fault == 0) {
                s = kept;
                s.left = Math.min(s.left, width());
                s.right = Math.min(s.right, width());
                x(s.x);
                y(s.y);
            }
        } else if (n == 6) {
            macros.clear();
        } else if (n == 7) {
            macros.removeIf(o -> !o.permanent);
        } else if (n == 8) {
            macros.remove(m);
        } else if ((n == 9 || n == 10) && m != null) {
            m.permanent = n == 10;
        }
    }

    void collect(int b) {
        readBytes.add(b);
        int n = readBytes.size();
        if (n >= 5 && readBytes.subList(n - 5, n).equals(List.of(27, 38, 102, 49, 88))) {
            reading = false;
            int others = macros.stream().mapToInt(m -> m.bytes.length).sum();
            if (macros.size() < 32 && others + n - 5 <= 16384) {
                Macro m = new Macro();
                m.id = readingId;
                m.bytes = readBytes.subList(0, n - 5).stream().mapToInt(i -> i).toArray();
                macros.add(m);
            }
        }
    }

    // ---- characters and control codes
    void character(int b) {
        Font font = chosen(s.font);
        int step = s.h;
        if (font != null && font.attributes[1] == 1 && font.glyphs.containsKey(b)) {
            step = Math.min(20000, font.glyphs.get(b).step);
        }
        if (s.x >= s.right || s.x + step > s.right) {
            if (!s.wrap) {
                return;
            }
            carriageReturn();
            lineFeed(s.v);
        }
        if (b != 32 && fault == 0) {
            due = true;
            if (font != null && font.glyphs.containsKey(b)) {
                layGlyph(font.glyphs.get(b));
            }
        }
        x(s.x + step);
    }

    void carriageReturn() {
        x(s.left);
    }

    void lineFeed(int v) {
        if (s.y + v > height() || s.skip && s.y + v > s.top + s.length) {
            eject();
        } else {
            y(s.y + v);
        }
    }

    void control(int b) {
        switch (b) {
            case 8 -> x(s.x >= s.left ? Math.max(s.left, s.x - s.h) : Math.max(0, s.x - s.h));
            case 9 -> {
                if (s.x < s.left) {
                    x(s.left);
                } else if (s.h != 0) {
                    long stop = s.left;
                    while (stop <= s.x) {
                        stop += 8L * s.h;
                    }
                    x(Math.min(stop, s.right));
                }
            }
            case 10 -> {
                if (s.lineEnd == 2 || s.lineEnd == 3) {
                    carriageReturn();
                }
                lineFeed(s.v);
            }
            case 12 -> {
                if (s.lineEnd == 2 || s.lineEnd == 3) {
                    carriageReturn();
                }
                eject();
            }
            case 13 -> {
                carriageReturn();
                if (s.lineEnd == 1 || s.lineEnd == 3) {
                    lineFeed(s.v);
                }
            }
            case 14 -> s.font = 1;
            case 15 -> s.font = 0;
            default -> { }
        }
    }

    void shortSequence(int b) {
        if (b == 'E') {
            ejectIfDue();
            reset();
        } else if (b == '9') {
            s.left = 0;
            s.right = width();
        } else if (b == '=') {
            lineFeed(s.v / 2);
        }
    }

    // ---- commands
    void command() {
        long v = Math.max(0, value);
        int n = (int) (v / 10000);
        String name = "" + (char) family + (group == 0 ? "" : String.valueOf((char) group)) + (char) end;
        switch (name) {
            case "&lA" -> {
                if (SIZES.containsKey(n)) {
                    ejectIfDue();
                    size = n;
                    defaults();
                }
            }
            case "&lO" -> {
                if (n <= 3) {
                    ejectIfDue();
                    orientation = n;
                    defaults();
                }
            }
            case "&lX" -> copies = Math.max(1, Math.min(99, n));
            case "&lC" -> {
                if (150 * v / 10000 <= height()) {
                    s.v = (int) (150 * v / 10000);
                }
            }
            case "&lD" -> {
                if (List.of(1, 2, 3, 4, 6, 8, 12, 16, 24, 48).contains(n)) {
                    s.v = 7200 / n;
                }
            }
            case "&lE" -> {
                if ((long) n * s.v <= height()) {
                    s.top = n * s.v;
                    s.length = Math.max(0, height() - s.top - 3600);
                }
            }
            case "&lF" -> {
                if (s.top + (long) n * s.v <= height()) {
                    s.length = n * s.v;
                }
            }
            case "&lL" -> s.skip = n == 1 ? true : n == 0 ? false : s.skip;
            case "&kH" -> s.h = (int) (60 * v / 10000);
            case "&kG" -> s.lineEnd = n <= 3 ? n : s.lineEnd;
            case "&aL" -> {
                if ((long) n * s.h < s.right) {
                    s.left = n * s.h;
                    if (s.x < s.left) {
                        x(s.left);
                    }
                }
            }
            case "&aM" -> {
                long right = (n + 1L) * s.h;
                if (right > s.left) {
                    s.right = (int) Math.min(right, width());
                    if (s.x > s.right) {
                        x(s.right);
                    }
                }
            }
            case "&sC" -> s.wrap = n == 0 ? true : n == 1 ? false : s.wrap;
            case "&fS" -> {
                if (n == 0 && s.stack.size() < 20) {
                    s.stack.add(new int[] {s.x, s.y});
                } else if (n == 1 && !s.stack.isEmpty()) {
                    int[] place = s.stack.remove(s.stack.size() - 1);
                    x(place[0]);
                    y(place[1]);
                }
            }
            case "&aC" -> x(signed ? s.x + value * s.h / 10000 : value * s.h / 10000);
            case "&aH" -> x(signed ? s.x + 10 * value / 10000 : 10 * value / 10000);
            case "*pX" -> x(signed ? s.x + 24 * value / 10000 : 24 * value / 10000);
            case "&aR" -> y(signed ? s.y + value * s.v / 10000 : home() + value * s.v / 10000);
            case "&aV" -> y(signed ? s.y + 10 * value / 10000 : s.top + 10 * value / 10000);
            case "*pY" -> y(signed ? s.y + 24 * value / 10000 : s.top + 24 * value / 10000);
            default -> others(name, v, n);
        }
    }

    void others(String name, long v, int n) {
        switch (name) {
            case "*cD" -> fontId = n;
            case "*cE" -> fontCode = n <= 255 ? n : fontCode;
            case "*cF" -> fontControl(n);
            case ")sW" -> font();
            case "(sW" -> glyph();
            case "*cA" -> ruleWidth = n * 24;
            case "*cB" -> ruleHeight = n * 24;
            case "*cH" -> ruleWidth = (int) (10 * v / 10000);
            case "*cV" -> ruleHeight = (int) (10 * v / 10000);
            case "*cG" -> pattern = n;
            case "*cP" -> rule(n);
            case "*vT" -> {
                if (n == 0 || n == 1 || n == 2 && pattern >= 1 && pattern <= 100
                        || n == 3 && pattern >= 1 && pattern <= 6) {
                    inkKind = n;
                    inkNumber = pattern;
                }
            }
            case "*vN" -> sourceOpaque = n == 1 ? true : n == 0 ? false : sourceOpaque;
            case "*vO" -> inkOpaque = n == 1 ? true : n == 0 ? false : inkOpaque;
            case "*tR" -> {
                if (!rasterOpen && List.of(75, 100, 150, 300).contains(n)) {
                    resolution = n;
                }
            }
            case "*rS" -> nextWidth = n <= 5119 ? n : nextWidth;
            case "*rT" -> nextHeight = n <= 5119 ? n : nextHeight;
            case "*rA" -> {
                if (n == 0 || n == 1) {
                    openRaster(n == 0 ? 0 : s.x);
                }
            }
            case "*bM" -> method = n <= 3 ? n : method;
            case "*bY" -> {
                if (rasterOpen) {
                    int bound = rasterHeight > 0 ? rasterHeight : 30000;
                    if (rasterRow <= bound) {
                        rasterRow = Math.min(bound, rasterRow + n);
                    }
                    Arrays.fill(seed, 0);
                }
            }
            case "*bW" -> row();
            case "*rB", "*rC" -> {
                if (rasterOpen) {
                    rasterOpen = false;
                    if (rasterHeight > 0) {
                        rasterRow = rasterHeight;
                    }
                    method = 0;
                    y((rasterY * dpi / 7200 + scale * (long) rasterRow) * (7200 / dpi));
                }
            }
            case "&fY" -> macroId = n;
            case "&fX" -> {
                if (said.size() < 8) {
                    said.add(new int[] {n, macroId});
                }
            }
            default -> wishes(name, v, n);
        }
    }

    void wishes(String name, long v, int n) {
        if (!name.startsWith("(") && !name.startsWith(")")) {
            return;
        }
        int f = name.startsWith("(") ? 0 : 1;
        switch (name.substring(1)) {
            case "sP" -> want(f, 1, n);
            case "sH" -> want(f, 2, v / 100);
            case "sV" -> want(f, 3, v / 100);
            case "sS" -> want(f, 4, n);
            case "sB" -> want(f, 5, value / 10000);
            case "sT" -> want(f, 6, n);
            case "X" -> {
                for (Font font : shelf) {
                    if (font.id == n) {
                        pin[f] = n;
                        wish[f] = font.attributes.clone();
                    }
                }
            }
            default -> {
                if (name.length() == 2 && end >= 65 && end <= 86) {
                    want(f, 0, 32 * n + end - 64);
                }
            }
        }
    }

    static final int[] LOW = {0, 0, 1, 1, 0, -7, 0};
    static final int[] HIGH = {2047, 1, 57600, 99999, 32767, 7, 65535};

    void want(int f, int attribute, long v) {
        if (v >= LOW[attribute] && v <= HIGH[attribute]) {
            wish[f][attribute] = (int) v;
            pin[f] = null;
        }
    }

    // ---- fonts
    Font fontOf(int id) {
        return shelf.stream().filter(f -> f.id == id).findFirst().orElse(null);
    }

    void fontControl(int n) {
        Font f = fontOf(fontId);
        if (n == 0) {
            shelf.clear();
        } else if (n == 1) {
            shelf.removeIf(o -> !o.permanent);
        } else if (n == 2) {
            shelf.remove(f);
        } else if (n == 3 && f != null) {
            f.glyphs.remove(fontCode);
        } else if (n == 4 && f != null) {
            f.permanent = false;
        } else if (n == 5 && f != null) {
            f.permanent = true;
        }
    }

    int datum(int at, int size) {
        int v = 0;
        for (int i = 0; i < size; i++) {
            v = v * 256 + data.get(at + i);
        }
        return v;
    }

    void font() {
        if (data.size() < 14) {
            return;
        }
        if (data.get(5) > 0) {
            return; // a height of more than 24 bits
        }
        int[] a = {datum(0, 2), datum(2, 1), datum(3, 2), datum(5, 4), datum(9, 2), (byte) datum(11, 1), datum(12, 2)};
        for (int i = 0; i < 7; i++) {
            if (a[i] < LOW[i] || a[i] > HIGH[i]) {
                return;
            }
        }
        Font old = fontOf(fontId);
        if (old == null && shelf.size() == 32) {
            return;
        }
        shelf.remove(old);
        Font f = new Font();
        f.id = fontId;
        f.attributes = a;
        shelf.add(f);
    }

    void glyph() {
        Font f = fontOf(fontId);
        if (f == null || data.size() < 10) {
            return;
        }
        List<Integer> sent = data.size() > 4096 ? data.subList(0, 4096) : data;
        Glyph g = new Glyph();
        g.left = (short) datum(0, 2);
        g.top = (short) datum(2, 2);
        g.width = datum(4, 2);
        g.depth = datum(6, 2);
        g.step = datum(8, 2);
        if (g.left < -16384 || g.left > 16383 || g.top < -16384 || g.top > 16383 || g.width > 128 || g.depth > 128
                || g.step > 32767) {
            return;
        }
        int row = (g.width + 7) / 8;
        g.bytes = new int[g.depth * row];
        for (int i = 0; i < g.bytes.length && 10 + i < sent.size(); i++) {
            g.bytes[i] = sent.get(10 + i);
        }
        int count = 0;
        int bytes = 0;
        for (Font o : shelf) {
            for (Map.Entry<Integer, Glyph> e : o.glyphs.entrySet()) {
                if (o != f || e.getKey() != fontCode) {
                    count++;
                    bytes += e.getValue().bytes.length;
                }
            }
        }
        if (count + 1 <= 256 && bytes + g.bytes.length <= 16384) {
            f.glyphs.put(fontCode, g);
        }
    }

    Font chosen(int f) {
        if (pin[f] != null && fontOf(pin[f]) != null) {
            return fontOf(pin[f]);
        }
        int[] w = wish[f];
        List<Font> left = new ArrayList<>(shelf);
        if (left.isEmpty()) {
            return null;
        }
        if (!keep(left, 0, w[0])) {
            keep(left, 0, 277);
        }
        keep(left, 1, w[1]);
        if (w[1] == 0 && left.stream().allMatch(o -> o.attributes[1] == 0)) {
            int least = left.stream().mapToInt(o -> o.attributes[2]).filter(p -> p >= w[2]).min().orElse(-1);
            int most = left.stream().mapToInt(o -> o.attributes[2]).max().orElse(-1);
            keep(left, 2, least >= 0 ? least : most);
        }
        int near = left.stream().mapToInt(o -> Math.abs(o.attributes[3] - w[3])).min().orElse(0);
        if (!keep(left, 3, w[3] + near)) {
            keep(left, 3, w[3] - near);
        }
        keep(left, 4, w[4]);
        if (!keep(left, 5, w[5])) {
            int[] all = left.stream().mapToInt(o -> o.attributes[5]).sorted().toArray();
            int[] above = Arrays.stream(all).filter(p -> p > w[5]).toArray();
            int[] below = Arrays.stream(all).filter(p -> p < w[5]).toArray();
            if (w[5] >= 0) {
                keep(left, 5, above.length > 0 ? above[0] : all[all.length - 1]);
            } else {
                keep(left, 5, below.length > 0 ? below[below.length - 1] : all[0]);
            }
        }
        keep(left, 6, w[6]);
        if (left.stream().anyMatch(o -> !o.permanent)) {
            left.removeIf(o -> o.permanent);
        }
        return left.get(left.size() - 1);
    }

    boolean keep(List<Font> left, int attribute, int v) {
        if (left.stream().noneMatch(o -> o.attributes[attribute] == v)) {
            return false;
        }
        left.removeIf(o -> o.attributes[attribute] != v);
        return true;
    }

    // ---- marks
    interface Source {
        boolean black(int p, int q);
    }

    void layGlyph(Glyph g) {
        if (g.width == 0 || g.depth == 0) {
            return;
        }
        int row = (g.width + 7) / 8;
        int[] place = place(dotI(s.x) + g.left, dotJ(s.y) - g.top);
        mark(place, g.width, g.depth, g.bytes.length, inkKind, inkNumber, inkOpaque,
                (p, q) -> (g.bytes[q * row + p / 8] >> 7 - p % 8 & 1) == 1);
    }

    int dotI(int x) {
        return (x + (orientation == 1 || orientation == 3 ? 1440 : 1800)) * dpi / 7200;
    }

    int dotJ(int y) {
        return y * dpi / 7200;
    }

    int[] place(int i, int j) {
        int w = sheetW();
        int h = sheetH();
        return switch (orientation) {
            case 0 -> new int[] {i, j};
            case 1 -> new int[] {j, h - 1 - i};
            case 2 -> new int[] {w - 1 - i, h - 1 - j};
            default -> new int[] {w - 1 - j, i};
        };
    }

    void mark(int[] place, int wide, int high, int bytes, int kind, int number, boolean opaque, Source source) {
        due = true;
        if (marks + 1 > 4096 || markBytes + bytes > 65536) {
            overrun = true;
            return;
        }
        marks++;
        markBytes += bytes;
        if (sheet == null) {
            sheet = new BitSet[sheetH()];
            for (int j = 0; j < sheet.length; j++) {
                sheet[j] = new BitSet();
            }
        }
        int sheetWide = sheetW();
        int sheetHigh = sheetH();
        // dots of a large mark that are further off than any sheet is long lie beside it
        for (int q = 0; q < Math.min(high, 5200); q++) {
            for (int p = 0; p < Math.min(wide, 5200); p++) {
                int x = place[0] + (orientation == 0 ? p : orientation == 1 ? q : orientation == 2 ? -p : -q);
                int y = place[1] + (orientation == 0 ? q : orientation == 1 ? -p : orientation == 2 ? -q : p);
                if (x < 0 || x >= sheetWide || y < 0 || y >= sheetHigh) {
                    continue;
                }
                if (!source.black(p, q)) {
                    if (sourceOpaque) {
                        sheet[y].set(x, false);
                    }
                } else if (inkAt(kind, number, x, y)) {
                    sheet[y].set(x, true);
                } else if (opaque) {
                    sheet[y].set(x, false);
                }
            }
        }
    }

    static boolean inkAt(int kind, int number, int x, int y) {
        int u = x % 16;
        int v = y % 16;
        if (kind == 0 || kind == 1) {
            return kind == 0;
        }
        if (kind == 2) {
            int d = 0;
            for (int b = 0; b < 3; b++) {
                int bi = (x % 8 >> b) % 2;
                int bj = (y % 8 >> b) % 2;
                d += (32 >> 2 * b) * (bi != bj ? 1 : 0);
                d += (16 >> 2 * b) * bj;
            }
            return d < (64 * number + 99) / 100;
        }
        boolean one = v == 7 || v == 8;
        boolean two = u == 7 || u == 8;
        boolean three = (u + v) % 16 < 2;
        boolean four = (u - v + 16) % 16 < 2;
        return switch (number) {
            case 1 -> one;
            case 2 -> two;
            case 3 -> three;
            case 4 -> four;
            case 5 -> one || two;
            default -> three || four;
        };
    }

    void rule(int n) {
        int w = ruleWidth * dpi / 7200 + (ruleWidth * dpi % 7200 > 0 ? 1 : 0);
        int h = ruleHeight * dpi / 7200 + (ruleHeight * dpi % 7200 > 0 ? 1 : 0);
        if (w == 0 || h == 0) {
            return;
        }
        int[] place = place(dotI(s.x), dotJ(s.y));
        Source all = (p, q) -> true;
        if (n == 0) {
            mark(place, w, h, 0, 0, 0, inkOpaque, all);
        } else if (n == 1) {
            mark(place, w, h, 0, 1, 0, true, all);
        } else if (n == 2 && pattern >= 1 && pattern <= 100) {
            mark(place, w, h, 0, 2, pattern, inkOpaque, all);
        } else if (n == 3 && pattern >= 1 && pattern <= 6) {
            mark(place, w, h, 0, 3, pattern, inkOpaque, all);
        } else if (n == 5) {
            mark(place, w, h, 0, inkKind, inkNumber, inkOpaque, all);
        }
    }

    // ---- rasters
    void openRaster(int x) {
        if (rasterOpen) {
            return;
        }
        rasterOpen = true;
        rasterX = x;
        rasterY = s.y;
        rasterWidth = nextWidth;
        rasterHeight = nextHeight;
        scale = Math.max(1, dpi / resolution);
        rasterRow = 0;
        seed = new int[rasterWidth == 0 ? 640 : (rasterWidth + 7) / 8];
    }

    void row() {
        openRaster(0);
        if (rasterHeight > 0 && rasterRow == rasterHeight) {
            return;
        }
        List<Integer> d = data.size() > 4096 ? data.subList(0, 4096) : data;
        int length = seed.length;
        List<Integer> out = new ArrayList<>();
        int i = 0;
        switch (method) {
            case 0 -> out.addAll(d);
            case 1 -> {
                for (; i + 1 < d.size(); i += 2) {
                    for (int k = 0; k <= d.get(i); k++) {
                        out.add(d.get(i + 1));
                    }
                }
            }
            case 2 -> {
                while (i < d.size()) {
                    int c = d.get(i++);
                    if (c <= 127) {
                        for (int k = 0; k < c + 1 && i < d.size(); k++) {
                            out.add(d.get(i++));
                        }
                    } else if (c > 128 && i < d.size()) {
                        int b = d.get(i++);
                        for (int k = 0; k < 257 - c; k++) {
                            out.add(b);
                        }
                    }
                }
            }
            default -> {
                for (int b : seed) {
                    out.add(b);
                }
                int place = 0;
                while (i < d.size()) {
                    int c = d.get(i++);
                    int offset = c % 32;
                    boolean on = offset == 31;
                    while (on && i < d.size()) {
                        offset += d.get(i);
                        on = d.get(i++) == 255;
                    }
                    if (on) {
                        break;
                    }
                    place += offset;
                    for (int k = 0; k < c / 32 + 1 && i < d.size(); k++) {
                        if (place < length) {
                            out.set(place, d.get(i));
                        }
                        i++;
                        place++;
                    }
                }
            }
        }
        int[] fresh = new int[length];
        for (int k = 0; k < length && k < out.size(); k++) {
            fresh[k] = out.get(k);
        }
        seed = fresh;
        int dots = 0;
        for (int k = 0; k < length * 8 && (rasterWidth == 0 || k < rasterWidth); k++) {
            if ((fresh[k / 8] >> 7 - k % 8 & 1) == 1) {
                dots = k + 1;
            }
        }
        if (dots > 0) {
            int[] place = place(dotI(rasterX), dotJ(rasterY) + scale * rasterRow);
            int sc = scale;
            mark(place, dots * sc, sc, (dots + 7) / 8, inkKind, inkNumber, inkOpaque,
                    (p, q) -> (fresh[p / sc / 8] >> 7 - p / sc % 8 & 1) == 1);
        }
        rasterRow++;
    }

    // ---- coded lines
    static final String WHITE_RESTS = "00110101 000111 0111 1000 1011 1100 1110 1111 10011 10100 00111 01000 001000 000011 110100 110101 101010 101011 0100111 0001100 0001000 0010111 0000011 0000100 0101000 0101011 0010011 0100100 0011000 00000010 00000011 00011010 00011011 00010010 00010011 00010100 00010101 00010110 00010111 00101000 00101001 00101010 00101011 00101100 00101101 00000100 00000101 00001010 00001011 01010010 01010011 01010100 01010101 00100100 00100101 01011000 01011001 01011010 01011011 01001010 01001011 00110010 00110011 00110100";
    static final String BLACK_RESTS = "0000110111 010 11 10 011 0011 0010 00011 000101 000100 0000100 0000101 0000111 00000100 00000111 000011000 0000010111 0000011000 0000001000 00001100111 00001101000 00001101100 00000110111 00000101000 00000010111 00000011000 000011001010 000011001011 000011001100 000011001101 000001101000 000001101001 000001101010 000001101011 000011010010 000011010011 000011010100 000011010101 000011010110 000011010111 000001101100 000001101101 000011011010 000011011011 000001010100 000001010101 000001010110 000001010111 000001100100 000001100101 000001010010 000001010011 000000100100 000000110111 000000111000 000000100111 000000101000 000001011000 000001011001 000000101011 000000101100 000001011010 000001100110 000001100111";
    static final String WHITE_BLOCKS = "11011 10010 010111 0110111 00110110 00110111 01100100 01100101 01101000 01100111 011001100 011001101 011010010 011010011 011010100 011010101 011010110 011010111 011011000 011011001 011011010 011011011 010011000 010011001 010011010 011000 010011011";
    static final String BLACK_BLOCKS = "0000001111 000011001000 000011001001 000001011011 000000110011 000000110100 000000110101 0000001101100 0000001101101 0000001001010 0000001001011 0000001001100 0000001001101 0000001110010 0000001110011 0000001110100 0000001110101 0000001110110 0000001110111 0000001010010 0000001010011 0000001010100 0000001010101 0000001011010 0000001011011 0000001100100 0000001100101";
    static final String BLOCKS = "00000001000 00000001100 00000001101 000000010010 000000010011 000000010100 000000010101 000000010110 000000010111 000000011100 000000011101 000000011110 000000011111";
    static final String END = "000000000001";
    static final String[] SHIFT = {"0000010", "000010", "010", "1", "011", "000011", "0000011"};

    static final List<Map<Integer, String>> RUNS = List.of(runs(WHITE_RESTS, WHITE_BLOCKS), runs(BLACK_RESTS, BLACK_BLOCKS));
    static final List<Map<String, Integer>> RUNS_BACK = List.of(back(RUNS.get(0)), back(RUNS.get(1)));

    static Map<Integer, String> runs(String rests, String blocks) {
        Map<Integer, String> m = new TreeMap<>();
        int n = 0;
        for (String w : rests.split(" ")) {
            m.put(n++, w);
        }
        for (String w : (blocks + " " + BLOCKS).split(" ")) {
            m.put(n, w);
            n += 64;
        }
        return m;
    }

    static Map<String, Integer> back(Map<Integer, String> words) {
        Map<String, Integer> m = new HashMap<>();
        words.forEach((n, w) -> m.put(w, n));
        return m;
    }

    static String run(int n, int colour) {
        StringBuilder b = new StringBuilder();
        while (n >= 2560) {
            b.append(RUNS.get(colour).get(2560));
            n -= 2560;
        }
        if (n >= 64) {
            b.append(RUNS.get(colour).get(n - n % 64));
        }
        return b.append(RUNS.get(colour).get(n % 64)).toString();
    }

    /** The first dot right of a that is of the colour, or the width. */
    static int find(BitSet line, int a, boolean black, int width) {
        int x = black ? line.nextSetBit(a + 1) : line.nextClearBit(a + 1);
        return x < 0 || x > width ? width : x;
    }

    /** The first change right of a to the colour, or the width. */
    static int change(BitSet line, int a, boolean black, int width) {
        boolean before = a >= 0 && line.get(a);
        int other = before == black ? find(line, a, !black, width) : a;
        return other >= width ? width : find(line, other, black, width);
    }

    static void codeLine(StringBuilder bits, BitSet above, BitSet line, int width) {
        int a = -1;
        boolean black = false;
        while (a < width) {
            int a1 = find(line, a, !black, width);
            int b1 = change(above, a, !black, width);
            int b2 = b1 >= width ? width : find(above, b1, black, width);
            if (b2 < a1) {
                bits.append("0001");
                a = b2;
            } else if (Math.abs(a1 - b1) <= 3) {
                bits.append(SHIFT[a1 - b1 + 3]);
                a = a1;
                black = !black;
            } else {
                int a2 = a1 >= width ? width : find(line, a1, black, width);
                bits.append("001").append(run(a1 - Math.max(a, 0), black ? 1 : 0)).append(run(a2 - a1, black ? 0 : 1));
                a = a2;
            }
        }
    }

    static String code(BitSet[] lines, int width) {
        StringBuilder bits = new StringBuilder();
        BitSet above = new BitSet();
        for (BitSet line : lines) {
            if (line.isEmpty() && above.isEmpty()) {
                bits.append("1");
            } else {
                codeLine(bits, above, line, width);
            }
            above = line;
        }
        bits.append(END).append(END);
        while (bits.length() % 8 != 0) {
            bits.append('0');
        }
        return bits.toString();
    }

    // ---- making the file
    void number(List<Integer> to, long n, int size) {
        for (int i = 0; i < size; i++) {
            to.add((int) (n >> 8 * i & 255));
        }
    }

    void addPage(BitSet[] lines, int width, String code, long across, long down) {
        int odd = made.bytes.size() % 2;
        if (made.pages.size() + 1 > 40 || made.bytes.size() + odd + code.length() / 8 > 60000) {
            fault = 20;
            return;
        }
        if (odd == 1) {
            made.bytes.add(0);
        }
        int place = made.bytes.size();
        for (int i = 0; i < code.length(); i += 8) {
            made.bytes.add(Integer.parseInt(code.substring(i, i + 8), 2));
        }
        int length = made.bytes.size() - place;
        if (made.bytes.size() % 2 == 1) {
            made.bytes.add(0);
        }
        int fine = made.bytes.size();
        for (long n : new long[] {across, 1, down, 1}) {
            number(made.bytes, n, 4);
        }
        int directory = made.bytes.size();
        number(made.bytes, 10, 2);
        long[][] entries = {{256, 4, width}, {257, 4, lines.length}, {259, 3, 4}, {262, 3, 0}, {273, 4, place},
            {278, 4, lines.length}, {279, 4, length}, {282, 5, fine}, {283, 5, fine + 8}, {296, 3, 2}};
        for (long[] e : entries) {
            number(made.bytes, e[0], 2);
            number(made.bytes, e[1], 2);
            number(made.bytes, 1, 4);
            number(made.bytes, e[2], e[1] == 3 ? 2 : 4);
            number(made.bytes, 0, e[1] == 3 ? 2 : 0);
        }
        List<Integer> link = new ArrayList<>();
        number(link, directory, 4);
        for (int i = 0; i < 4; i++) {
            made.bytes.set(made.link + i, link.get(i));
        }
        made.link = made.bytes.size();
        number(made.bytes, 0, 4);
        made.pages.add(new int[] {width, lines.length, place, length});
        made.dots.add(lines);
    }

    // ---- picture files
    static final List<Integer> TAGS = List.of(256, 257, 259, 262, 266, 273, 278, 279, 282, 283, 296);
    List<Integer> in;
    int order;

    long get(long place, int size) {
        long n = 0;
        for (int i = 0; i < size; i++) {
            n = n * 256 + in.get((int) (order == 77 ? place + i : place + size - 1 - i));
        }
        return n;
    }

    void readPictureFile(List<Integer> part) {
        in = part;
        List<Map<Integer, long[]>> pages = new ArrayList<>();
        fault = directories(pages);
        for (Map<Integer, long[]> page : pages) {
            if (fault == 0) {
                fault = picture(page);
            }
        }
    }

    int directories(List<Map<Integer, long[]>> pages) {
        if (in.size() < 8 || !in.get(0).equals(in.get(1)) || in.get(0) != 77 && in.get(0) != 73) {
            return 1;
        }
        order = in.get(0);
        if (get(2, 2) != 42) {
            return 1;
        }
        long place = get(4, 4);
        long strips = 0;
        do {
            if (pages.size() == 40 || place < 8 || place % 2 == 1 || place + 2 > in.size()) {
                return 2;
            }
            int n = (int) get(place, 2);
            if (n == 0 || place + 2 + 12L * n + 4 > in.size()) {
                return 2;
            }
            Map<Integer, long[]> page = new HashMap<>();
            int before = -1;
            for (int e = 0; e < n; e++) {
                long at = place + 2 + 12L * e;
                int tag = (int) get(at, 2);
                if (tag <= before) {
                    return 3;
                }
                before = tag;
                int f = entry(page, at, tag);
                if (f != 0) {
                    return f;
                }
            }
            int f = checkPage(page, strips);
            if (f != 0) {
                return f;
            }
            strips += page.get(273).length;
            pages.add(page);
            place = get(place + 2 + 12L * n, 4);
        } while (place != 0);
        return 0;
    }

    int entry(Map<Integer, long[]> page, long at, int tag) {
        if (!TAGS.contains(tag)) {
            return 0;
        }
        int type = (int) get(at + 2, 2);
        long count = get(at + 4, 4);
        boolean good = switch (tag) {
            case 282, 283 -> type == 5;
            case 256, 257, 273, 278, 279 -> type == 3 || type == 4;
            default -> type == 3;
        };
        if (!good || count == 0 || count > 4096 || tag != 273 && tag != 279 && count != 1) {
            return 4;
        }
        int each = type == 3 ? 2 : type == 4 ? 4 : 8;
        long from = at + 8;
        if (count * each > 4) {
            from = get(at + 8, 4);
            if (from + count * each > in.size()) {
                return 5;
            }
        }
        int unit = Math.min(each, 4);
        long[] values = new long[(int) (count * each / unit)];
        for (int i = 0; i < values.length; i++) {
            values[i] = get(from + (long) i * unit, unit);
        }
        page.put(tag, values);
        return 0;
    }

    int checkPage(Map<Integer, long[]> page, long stripsBefore) {
        for (int tag : new int[] {256, 257, 273, 279}) {
            if (!page.containsKey(tag)) {
                return 6;
            }
        }
        long w = page.get(256)[0];
        long h = page.get(257)[0];
        page.putIfAbsent(259, new long[] {1});
        page.putIfAbsent(262, new long[] {0});
        page.putIfAbsent(266, new long[] {1});
        page.putIfAbsent(278, new long[] {h});
        page.putIfAbsent(296, new long[] {2});
        page.putIfAbsent(282, new long[] {300, 1});
        page.putIfAbsent(283, new long[] {300, 1});
        if (w == 0 || w > 20000 || h == 0 || h > 20000) {
            return 7;
        }
        if (page.get(259)[0] != 1 && page.get(259)[0] != 4 || page.get(262)[0] > 1) {
            return 7;
        }
        if (page.get(266)[0] != 1 && page.get(266)[0] != 2 || page.get(278)[0] == 0) {
            return 7;
        }
        if (page.get(296)[0] < 1 || page.get(296)[0] > 3 || page.get(282)[1] == 0 || page.get(283)[1] == 0) {
            return 7;
        }
        long strips = (h + page.get(278)[0] - 1) / page.get(278)[0];
        if (page.get(273).length != strips || page.get(279).length != strips || stripsBefore + strips > 8192) {
            return 8;
        }
        for (int i = 0; i < strips; i++) {
            long place = page.get(273)[i];
            if (place < 8 || place + page.get(279)[i] > in.size()) {
                return 9;
            }
        }
        return 0;
    }

    int picture(Map<Integer, long[]> page) {
        if (picturesComeTo >= 300) {
            return 21;
        }
        picturesComeTo++;
        int width = (int) page.get(256)[0];
        int height = (int) page.get(257)[0];
        long rows = page.get(278)[0];
        if (width > 10000) {
            return 19;
        }
        List<BitSet> lines = new ArrayList<>();
        for (int strip = 0; strip < page.get(273).length; strip++) {
            long n = Math.min(rows, height - lines.size());
            StringBuilder bits = new StringBuilder();
            for (int i = 0; i < page.get(279)[strip]; i++) {
                int b = in.get((int) page.get(273)[strip] + i);
                StringBuilder eight = new StringBuilder(Integer.toBinaryString(256 + b).substring(1));
                bits.append(page.get(266)[0] == 2 ? eight.reverse() : eight);
            }
            int f = page.get(259)[0] == 4 ? packed(lines, bits, width, n) : plain(lines, bits, width, n);
            if (f != 0) {
                return f;
            }
        }
        BitSet[] all = lines.toArray(new BitSet[0]);
        if (page.get(262)[0] == 1) {
            for (BitSet line : all) {
                line.flip(0, width);
            }
        }
        addPage(all, width, code(all, width), fineness(page.get(282)), fineness(page.get(283)));
        return fault;
    }

    static long fineness(long[] two) {
        return Math.max(1, Math.min(10000, two[0] / two[1]));
    }

    static int plain(List<BitSet> lines, StringBuilder bits, int width, long n) {
        int wide = (width + 7) / 8 * 8;
        if (n * wide > bits.length()) {
            return 18;
        }
        for (int j = 0; j < n; j++) {
            BitSet line = new BitSet();
            for (int x = 0; x < width; x++) {
                line.set(x, bits.charAt(j * wide + x) == '1');
            }
            lines.add(line);
        }
        return 0;
    }

    static int packed(List<BitSet> lines, StringBuilder bits, int width, long n) {
        BitSet above = new BitSet();
        int[] at = {0};
        for (int j = 0; j < n; j++) {
            BitSet line = new BitSet();
            int f = readLine(bits, at, above, line, width);
            if (f != 0) {
                return 10 + f;
            }
            lines.add((BitSet) line.clone());
            above = line;
        }
        return 0;
    }

    static final List<String> MODES = List.of("0001", "001", "0000010", "000010", "010", "1", "011", "000011", "0000011");
    static final List<String> FIRST_MODES = List.of("0001", "001", "0000010", "000010", "010", "1", "011", "000011", "0000011", END);

    /** The word that stands there, or the fault as a text of one sign. */
    static String word(StringBuilder bits, int[] at, java.util.Collection<String> words) {
        String w = "";
        while (true) {
            if (at[0] >= bits.length()) {
                return "!1";
            }
            w += bits.charAt(at[0]++);
            if (words.contains(w)) {
                return w;
            }
            String begun = w;
            if (words.stream().noneMatch(o -> o.startsWith(begun))) {
                return "!2";
            }
        }
    }

    static int readLine(StringBuilder bits, int[] at, BitSet above, BitSet line, int width) {
        int a = -1;
        boolean black = false;
        boolean first = true;
        while (a < width) {
            String w = word(bits, at, first ? FIRST_MODES : MODES);
            first = false;
            if (w.equals(END)) {
                String second = word(bits, at, List.of(END));
                return second.startsWith("!") ? second.charAt(1) - '0' : 7;
            }
            if (w.startsWith("!")) {
                return w.charAt(1) - '0';
            }
            int from = Math.max(a, 0);
            int b1 = change(above, a, !black, width);
            int b2 = b1 >= width ? width : find(above, b1, black, width);
            if (w.equals("0001")) {
                if (b2 == width) {
                    return 3;
                }
                line.set(from, b2, black);
                a = b2;
            } else if (w.equals("001")) {
                int place = from;
                int[] ends = new int[2];
                for (int r = 0; r < 2; r++) {
                    boolean colour = r == 0 ? black : !black;
                    int dots = 64;
                    while (dots >= 64) {
                        String t = word(bits, at, RUNS_BACK.get(colour ? 1 : 0).keySet());
                        if (t.startsWith("!")) {
                            return t.charAt(1) - '0';
                        }
                        dots = RUNS_BACK.get(colour ? 1 : 0).get(t);
                        place += dots;
                        if (place > width) {
                            return 5;
                        }
                    }
                    ends[r] = place;
                }
                if (ends[1] == from) {
                    return 6;
                }
                line.set(from, ends[0], black);
                line.set(ends[0], ends[1], !black);
                a = ends[1];
            } else {
                int a1 = b1 + Arrays.asList(SHIFT).indexOf(w) - 3;
                if (a1 <= a || a1 > width) {
                    return 4;
                }
                line.set(from, a1, black);
                a = a1;
                black = !black;
            }
        }
        return 0;
    }
}
