import java.util.Arrays;

/**
 * A page printer: streams of a page language and files of pictures become one file of pages of
 * black and white dots. What it promises stands in the document of the project.
 */
public final class SheetPrinter {
    /** There is none. */
    public static final int NONE = -1;

    private static final int TAPE_ROOM = 65536;
    private static final int TAPE_STEP = 20;
    private static final int MOST_PICTURES = 300;
    private static final int WIDEST_PICTURE = 10000;
    /* Far above what the tape and the 65536 bytes that macros may come to can need. */
    private static final int MOST_STEPS = 1 << 24;

    /* The first one of the 64 dots that a long holds. */
    private static final long FIRST_DOT = 1L << 63;

    private static final int LINE_FAULTS = 10;
    private static final int STRIP_TOO_SHORT = 18;
    private static final int PICTURE_TOO_WIDE = 19;
    private static final int FILE_FULL = 20;
    private static final int TOO_MANY_PICTURES = 21;

    private final int dpi;
    private final byte[] tape;
    private final Page page;
    private final Sheet sheet;
    private final FontShelf fonts;
    private final Macros macros;
    private final Raster raster;
    private final Interpreter interpreter;
    private final PictureFile picture;
    private final Coder coder;
    private final LineReader reader;
    private OutFile file;
    private OutFile shown;
    private int taped;
    private int fault;
    private int ended;
    private int overruns;
    private int pictures;

    public SheetPrinter(int dpi, int band) {
        this.dpi = dpi >= 300 ? 300 : dpi >= 150 ? 150 : 75;
        tape = new byte[TAPE_ROOM];
        page = new Page(this.dpi);
        sheet = new Sheet(page, band);
        fonts = new FontShelf();
        macros = new Macros();
        raster = new Raster(this.dpi);
        interpreter = new Interpreter(tape, page, sheet, fonts, macros, raster);
        picture = new PictureFile(tape);
        file = new OutFile();
        shown = new OutFile();
        coder = new Coder(file);
        reader = new LineReader(tape);
        file.begin();
    }

    public boolean tape(int a, int b, int c, int d, int e) {
        if (taped + TAPE_STEP > tape.length) {
            return false;
        }
        tapeNumber(a);
        tapeNumber(b);
        tapeNumber(c);
        tapeNumber(d);
        tapeNumber(e);
        return true;
    }

    private void tapeNumber(int number) {
        for (int shift = 24; shift >= 0 && taped < tape.length; shift -= 8) {
            tape[taped] = (byte) (number >> shift);
            taped++;
        }
    }

    public int submit(int kind, int n) throws IllegalArgumentException, IllegalStateException {
        if (kind < 0 || kind > 1 || n < 1 || n > TAPE_STEP) {
            throw new IllegalArgumentException("kind is 0 or 1, n is 1 to 20");
        }
        if (fault != 0) {
            throw new IllegalStateException("the job has failed");
        }
        int bytes = Math.max(0, taped - (TAPE_STEP - n));
        if (kind == 0) {
            printStream(bytes);
        } else {
            fault = printPictures(bytes);
        }
        taped = 0;
        return file.pages;
    }

    public int conclude() {
        interpreter.forget();
        if (fault == 0 && sheet.due) {
            fault = printSheet();
        }
        int told = fault;
        sheet.endJob();
        page.reset();
        fonts.endJob();
        macros.endJob();
        raster.endJob();
        OutFile made = file;
        file = shown;
        shown = made;
        file.begin();
        taped = 0;
        fault = 0;
        overruns = 0;
        ended++;
        return told;
    }

    public long bytesAt(int k) {
        long first = 8L * k;
        long bytes = 0;
        for (int i = 0; i < 8; i++) {
            bytes = bytes << 8 | shown.byteAt(first + i);
        }
        return bytes;
    }

    public int sheetOf(int p, int w) throws IndexOutOfBoundsException {
        if (p < 0 || p >= shown.pages || w < 0 || w > 3) {
            throw new IndexOutOfBoundsException("no such page or number");
        }
        return shown.told(p, w);
    }

    public long printed(int p, int y, int k) {
        if (p < 0 || p >= shown.pages || y < 0 || y >= shown.told(p, OutFile.HIGH)) {
            return 0;
        }
        int width = shown.told(p, OutFile.WIDE);
        if (k < 0 || k > width / 64) {
            return 0;
        }
        reader.begin(shown.bytes, shown.told(p, OutFile.PLACE), shown.told(p, OutFile.LENGTH), false);
        for (int line = 0; line <= y; line++) {
            if (reader.readLine(width) != 0) {
                return 0;
            }
        }
        return reader.dotsFrom(64 * k);
    }

    public int status(int which) {
        switch (which) {
            case 0: return dpi;
            case 1: return taped;
            case 2: return file.pages;
            case 3: return fault;
            case 4: return sheet.count;
            case 5: return sheet.used;
            case 6: return sheet.overrun ? 1 : 0;
            case 7: return page.x;
            case 8: return page.y;
            case 9: return page.sizeNumber();
            case 10: return page.orientation;
            case 11: return page.font;
            case 22: return shown.length;
            case 23: return shown.pages;
            case 24: return ended;
            case 25: return overruns;
            default: return storeStatus(which);
        }
    }

    private int storeStatus(int which) {
        switch (which) {
            case 12: return fonts.fonts;
            case 13: return fonts.glyphCount;
            case 14: return fonts.chosenId(0);
            case 15: return fonts.chosenId(1);
            case 16: return macros.count;
            case 17: return macros.used;
            case 18: return macros.reading ? 1 : 0;
            case 19: return macros.had;
            case 20: return raster.open ? 1 : 0;
            case 21: return raster.open ? raster.row : NONE;
            default: return NONE;
        }
    }

    /* Sheets are printed and fonts are chosen from here, not from within the commands, which only
       ask for it: so calls do not go deep, and a command is finished when that is done. */
    private void printStream(int bytes) {
        interpreter.begin(bytes);
        for (int step = 0; step < MOST_STEPS && fault == 0 && interpreter.hasMore(); step++) {
            interpreter.act(interpreter.next());
            fonts.settle();
            if (interpreter.ejecting) {
                fault = printSheet();
            }
            interpreter.finish(fault != 0);
        }
    }

    private int printSheet() {
        if (sheet.overrun) {
            overruns++;
        }
        int high = page.high();
        coder.begin(file, page.wide());
        for (int first = 0; first < high && !coder.full; first += sheet.bandLines) {
            printBand(first, Math.min(sheet.bandLines, high - first));
        }
        sheet.clear();
        boolean fits = coder.finish(high, dpi, dpi);
        for (int copy = 1; copy < page.copies && fits; copy++) {
            fits = file.repeatPage(dpi);
        }
        return fits ? 0 : FILE_FULL;
    }

    private void printBand(int first, int lines) {
        boolean painted = sheet.paintBand(first, lines);
        for (int line = 0; line < lines; line++) {
            if (painted) {
                coder.takeWords(sheet.band, line * sheet.bandWords);
            } else {
                coder.takeWhite();
            }
            coder.codeLine();
        }
    }

    private int printPictures(int bytes) {
        int found = picture.check(bytes);
        for (int p = 0; p < PictureFile.MOST_PAGES && found == 0 && picture.hasPage(); p++) {
            picture.readPage();
            if (pictures >= MOST_PICTURES) {
                return TOO_MANY_PICTURES;
            }
            pictures++;
            found = printPicture();
        }
        return found;
    }

    private int printPicture() {
        int width = (int) picture.width();
        if (width > WIDEST_PICTURE) {
            return PICTURE_TOO_WIDE;
        }
        coder.begin(file, width);
        int strips = (int) picture.strips();
        for (int strip = 0; strip < strips; strip++) {
            int found = picture.code() == PictureFile.PACKED ? codePackedStrip(strip) : codePlainStrip(strip);
            if (found != 0) {
                return found;
            }
        }
        boolean fits = coder.finish((int) picture.height(), picture.fineness(PictureFile.ACROSS),
                picture.fineness(PictureFile.DOWN));
        return fits ? 0 : FILE_FULL;
    }

    /* Lines are read on when the file is full, for a fault further on stands ahead of that. */
    private int codePackedStrip(int strip) {
        int width = (int) picture.width();
        int lines = picture.linesOf(strip);
        boolean inverted = picture.inverted();
        reader.begin(tape, picture.placeOf(strip), picture.lengthOf(strip), picture.turned());
        for (int line = 0; line < lines; line++) {
            int found = reader.readLine(width);
            if (found != 0) {
                return LINE_FAULTS + found;
            }
            coder.takeChanges(reader.line, reader.lineCount, inverted);
            coder.codeLine();
        }
        return 0;
    }

    private int codePlainStrip(int strip) {
        int lineBytes = ((int) picture.width() + 7) / 8;
        int lines = picture.linesOf(strip);
        int place = picture.placeOf(strip);
        boolean inverted = picture.inverted();
        boolean turned = picture.turned();
        if ((long) lines * lineBytes > picture.lengthOf(strip)) {
            return STRIP_TOO_SHORT;
        }
        for (int line = 0; line < lines; line++) {
            coder.takeBytes(tape, place + line * lineBytes, turned, inverted);
            coder.codeLine();
        }
        return 0;
    }

    /** The file that a job makes: pages of one strip each, with the lowest byte first. */
    private static final class OutFile {
        static final int WIDE = 0;
        static final int HIGH = 1;
        static final int PLACE = 2;
        static final int LENGTH = 3;
        static final int MOST_PAGES = 40;
        static final int MOST_BYTES = 60000;
        /* What stands behind the last strip may go beyond MOST_BYTES. */
        private static final int DIRECTORY_ROOM = 160;
        private static final int COLUMNS = 4;
        private static final int ENTRIES = 10;
        private static final int SHORT = 3;
        private static final int LONG = 4;
        private static final int TWO_LONGS = 5;

        final byte[] bytes = new byte[MOST_BYTES + DIRECTORY_ROOM];
        private final int[] table = new int[MOST_PAGES * COLUMNS];
        int length;
        int pages;
        private int link;

        void begin() {
            length = 0;
            pages = 0;
            putNumber(73, 1);
            putNumber(73, 1);
            putNumber(42, 2);
            link = length;
            putNumber(0, 4);
        }

        long byteAt(long place) {
            return place >= 0 && place < length && place < bytes.length ? bytes[(int) place] & 255 : 0;
        }

        int told(int p, int column) {
            int at = p * COLUMNS + column;
            return at >= 0 && at < table.length ? table[at] : 0;
        }

        int evenLength() {
            return length + (length & 1);
        }

        void padToEven() {
            if ((length & 1) != 0) {
                putNumber(0, 1);
            }
        }

        void addPage(int wide, int high, int place, int stripLength, int across, int down) {
            tell(WIDE, wide);
            tell(HIGH, high);
            tell(PLACE, place);
            tell(LENGTH, stripLength);
            length = place + stripLength;
            padToEven();
            int fineness = length;
            putNumber(across, 4);
            putNumber(1, 4);
            putNumber(down, 4);
            putNumber(1, 4);
            int directory = length;
            putNumber(ENTRIES, 2);
            putEntry(256, LONG, wide);
            putEntry(257, LONG, high);
            putEntry(259, SHORT, PictureFile.PACKED);
            putEntry(262, SHORT, 0);
            putEntry(273, LONG, place);
            putEntry(278, LONG, high);
            putEntry(279, LONG, stripLength);
            putEntry(282, TWO_LONGS, fineness);
            putEntry(283, TWO_LONGS, fineness + 8);
            putEntry(296, SHORT, 2);
            linkTo(directory);
            link = length;
            putNumber(0, 4);
            pages++;
        }

        /** Adds the last page once more; false if there is no room. */
        boolean repeatPage(int dpi) {
            int last = pages - 1;
            int from = told(last, PLACE);
            int stripLength = told(last, LENGTH);
            int place = evenLength();
            if (last < 0 || pages >= MOST_PAGES || place + stripLength > MOST_BYTES) {
                return false;
            }
            padToEven();
            System.arraycopy(bytes, from, bytes, place, stripLength);
            addPage(told(last, WIDE), told(last, HIGH), place, stripLength, dpi, dpi);
            return true;
        }

        private void tell(int column, int number) {
            int at = pages * COLUMNS + column;
            if (at >= 0 && at < table.length) {
                table[at] = number;
            }
        }

        private void putEntry(int tag, int type, int number) {
            putNumber(tag, 2);
            putNumber(type, 2);
            putNumber(1, 4);
            putNumber(number, 4);
        }

        private void linkTo(int directory) {
            int end = length;
            length = link;
            putNumber(directory, 4);
            length = end;
        }

        private void putNumber(int number, int size) {
            for (int i = 0; i < size && length < bytes.length; i++) {
                bytes[length] = (byte) (number >> 8 * i);
                length++;
            }
        }
    }

    /** Codes lines, told by their changes, into a strip behind the end of a file. */
    private static final class Coder {
        /* A word has a 1 ahead of its bits, so that its zeros in front are not lost. */
        static final int PASS = 0b1_0001;
        static final int ACROSS = 0b1_001;
        static final int END = 0b1_000000000001;
        static final int MOST_SHIFT = 3;
        static final int FIRST_LONG_BLOCK = 1792;
        static final int LONGEST_BLOCK = 2560;
        static final int[] SHIFTS = {
            0b1_0000010, 0b1_000010, 0b1_010, 0b1_1, 0b1_011, 0b1_000011, 0b1_0000011};
        static final int[] WHITE_RESTS = {
            0b1_00110101, 0b1_000111, 0b1_0111, 0b1_1000, 0b1_1011, 0b1_1100, 0b1_1110, 0b1_1111,
            0b1_10011, 0b1_10100, 0b1_00111, 0b1_01000, 0b1_001000, 0b1_000011, 0b1_110100,
            0b1_110101, 0b1_101010, 0b1_101011, 0b1_0100111, 0b1_0001100, 0b1_0001000, 0b1_0010111,
            0b1_0000011, 0b1_0000100, 0b1_0101000, 0b1_0101011, 0b1_0010011, 0b1_0100100, 0b1_0011000,
            0b1_00000010, 0b1_00000011, 0b1_00011010, 0b1_00011011, 0b1_00010010, 0b1_00010011,
            0b1_00010100, 0b1_00010101, 0b1_00010110, 0b1_00010111, 0b1_00101000, 0b1_00101001,
            0b1_00101010, 0b1_00101011, 0b1_00101100, 0b1_00101101, 0b1_00000100, 0b1_00000101,
            0b1_00001010, 0b1_00001011, 0b1_01010010, 0b1_01010011, 0b1_01010100, 0b1_01010101,
            0b1_00100100, 0b1_00100101, 0b1_01011000, 0b1_01011001, 0b1_01011010, 0b1_01011011,
            0b1_01001010, 0b1_01001011, 0b1_00110010, 0b1_00110011, 0b1_00110100};
        static final int[] BLACK_RESTS = {
            0b1_0000110111, 0b1_010, 0b1_11, 0b1_10, 0b1_011, 0b1_0011, 0b1_0010, 0b1_00011,
            0b1_000101, 0b1_000100, 0b1_0000100, 0b1_0000101, 0b1_0000111, 0b1_00000100, 0b1_00000111,
            0b1_000011000, 0b1_0000010111, 0b1_0000011000, 0b1_0000001000, 0b1_00001100111,
            0b1_00001101000, 0b1_00001101100, 0b1_00000110111, 0b1_00000101000, 0b1_00000010111,
            0b1_00000011000, 0b1_000011001010, 0b1_000011001011, 0b1_000011001100, 0b1_000011001101,
            0b1_000001101000, 0b1_000001101001, 0b1_000001101010, 0b1_000001101011, 0b1_000011010010,
            0b1_000011010011, 0b1_000011010100, 0b1_000011010101, 0b1_000011010110, 0b1_000011010111,
            0b1_000001101100, 0b1_000001101101, 0b1_000011011010, 0b1_000011011011, 0b1_000001010100,
            0b1_000001010101, 0b1_000001010110, 0b1_000001010111, 0b1_000001100100, 0b1_000001100101,
            0b1_000001010010, 0b1_000001010011, 0b1_000000100100, 0b1_000000110111, 0b1_000000111000,
            0b1_000000100111, 0b1_000000101000, 0b1_000001011000, 0b1_000001011001, 0b1_000000101011,
            0b1_000000101100, 0b1_000001011010, 0b1_000001100110, 0b1_000001100111};
        static final int[] WHITE_BLOCKS = {
            0b1_11011, 0b1_10010, 0b1_010111, 0b1_0110111, 0b1_00110110, 0b1_00110111, 0b1_01100100,
            0b1_01100101, 0b1_01101000, 0b1_01100111, 0b1_011001100, 0b1_011001101, 0b1_011010010,
            0b1_011010011, 0b1_011010100, 0b1_011010101, 0b1_011010110, 0b1_011010111, 0b1_011011000,
            0b1_011011001, 0b1_011011010, 0b1_011011011, 0b1_010011000, 0b1_010011001, 0b1_010011010,
            0b1_011000, 0b1_010011011};
        static final int[] BLACK_BLOCKS = {
            0b1_0000001111, 0b1_000011001000, 0b1_000011001001, 0b1_000001011011, 0b1_000000110011,
            0b1_000000110100, 0b1_000000110101, 0b1_0000001101100, 0b1_0000001101101, 0b1_0000001001010,
            0b1_0000001001011, 0b1_0000001001100, 0b1_0000001001101, 0b1_0000001110010, 0b1_0000001110011,
            0b1_0000001110100, 0b1_0000001110101, 0b1_0000001110110, 0b1_0000001110111, 0b1_0000001010010,
            0b1_0000001010011, 0b1_0000001010100, 0b1_0000001010101, 0b1_0000001011010, 0b1_0000001011011,
            0b1_0000001100100, 0b1_0000001100101};
        static final int[] LONG_BLOCKS = {
            0b1_00000001000, 0b1_00000001100, 0b1_00000001101, 0b1_000000010010, 0b1_000000010011,
            0b1_000000010100, 0b1_000000010101, 0b1_000000010110, 0b1_000000010111, 0b1_000000011100,
            0b1_000000011101, 0b1_000000011110, 0b1_000000011111};

        private OutFile file;
        private int width;
        private int start;
        private int at;
        private int held;
        private int heldBits;
        boolean full;
        private int[] above = new int[WIDEST_PICTURE];
        private int aboveCount;
        private int[] line = new int[WIDEST_PICTURE];
        private int lineCount;

        Coder(OutFile file) {
            this.file = file;
        }

        static int bitsOf(int word) {
            int bits = 0;
            for (int rest = word; rest > 1; rest >>= 1) {
                bits++;
            }
            return bits;
        }

        static int changeAt(int[] changes, int count, int i, int width) {
            return i >= 0 && i < count && i < changes.length ? changes[i] : width;
        }

        void begin(OutFile file, int width) {
            this.file = file;
            this.width = width;
            start = file.evenLength();
            at = file.length;
            full = file.pages >= OutFile.MOST_PAGES;
            if (at < start) {
                putByte(0);
            }
            held = 0;
            heldBits = 0;
            aboveCount = 0;
            lineCount = 0;
        }

        void takeWhite() {
            lineCount = 0;
        }

        void takeWords(long[] words, int from) {
            lineCount = 0;
            long before = 0;
            for (int first = 0; first < width; first += 64) {
                int i = from + first / 64;
                long now = i >= 0 && i < words.length ? words[i] : 0;
                long changed = now ^ (now >>> 1 | before << 63);
                before = now & 1;
                if (changed != 0) {
                    addChanges(changed, first);
                }
            }
        }

        private void addChanges(long changed, int first) {
            for (int bit = 0; bit < 64; bit++) {
                if (changed << bit < 0) {
                    addChange(first + bit);
                }
            }
        }

        private void addChange(int x) {
            if (x < width && lineCount < line.length) {
                line[lineCount] = x;
                lineCount++;
            }
        }

        void takeBytes(byte[] bytes, int from, boolean turned, boolean inverted) {
            lineCount = 0;
            int before = 0;
            int flip = inverted ? 1 : 0;
            for (int x = 0; x < width; x++) {
                int i = from + x / 8;
                int shift = turned ? x & 7 : 7 - (x & 7);
                int dot = i >= 0 && i < bytes.length ? bytes[i] >> shift & 1 ^ flip : 0;
                if (dot != before) {
                    addChange(x);
                    before = dot;
                }
            }
        }

        void takeChanges(int[] changes, int count, boolean inverted) {
            lineCount = 0;
            int first = 0;
            if (inverted && changeAt(changes, count, 0, width) == 0) {
                first = 1;
            } else if (inverted) {
                addChange(0);
            }
            for (int i = first; i < count; i++) {
                addChange(changeAt(changes, count, i, width));
            }
        }

        void codeLine() {
            if (full) {
                return;
            }
            int a = -1;
            int colour = 0;
            int next = 0;
            int over = 0;
            for (int words = 0; words <= width && a < width; words++) {
                for (; over < aboveCount && over < above.length && above[over] <= a; over++) {
                    /* a only grows, so what it has passed stays passed */
                }
                int b = (over & 1) == colour ? over : over + 1;
                int b1 = changeAt(above, aboveCount, b, width);
                int b2 = changeAt(above, aboveCount, b + 1, width);
                int a1 = changeAt(line, lineCount, next, width);
                int shift = a1 - b1 + MOST_SHIFT;
                if (b2 < a1) {
                    putWord(PASS);
                    a = b2;
                } else if (shift >= 0 && shift < SHIFTS.length) {
                    putWord(SHIFTS[shift]);
                    a = a1;
                    colour = 1 - colour;
                    next++;
                } else {
                    int a2 = changeAt(line, lineCount, next + 1, width);
                    putWord(ACROSS);
                    putRun(a1 - Math.max(a, 0), colour);
                    putRun(a2 - a1, 1 - colour);
                    a = a2;
                    next += 2;
                }
            }
            turnOver();
        }

        private void turnOver() {
            int[] coded = line;
            line = above;
            above = coded;
            aboveCount = lineCount;
        }

        private void putRun(int dots, int colour) {
            int left = dots;
            for (; left >= LONGEST_BLOCK; left -= LONGEST_BLOCK) {
                putWord(LONG_BLOCKS[LONG_BLOCKS.length - 1]);
            }
            int block = left / 64 - 1;
            int longBlock = (left - FIRST_LONG_BLOCK) / 64;
            int rest = left & 63;
            if (left >= FIRST_LONG_BLOCK && longBlock < LONG_BLOCKS.length) {
                putWord(LONG_BLOCKS[longBlock]);
            } else if (block >= 0 && block < WHITE_BLOCKS.length && block < BLACK_BLOCKS.length) {
                putWord(colour == 0 ? WHITE_BLOCKS[block] : BLACK_BLOCKS[block]);
            }
            putWord(colour == 0 ? WHITE_RESTS[rest] : BLACK_RESTS[rest]);
        }

        private void putWord(int word) {
            for (int bit = bitsOf(word) - 1; bit >= 0; bit--) {
                held = held << 1 | word >> bit & 1;
                heldBits++;
                if (heldBits == 8) {
                    putByte(held);
                    held = 0;
                    heldBits = 0;
                }
            }
        }

        private void putByte(int b) {
            if (at >= 0 && at < OutFile.MOST_BYTES && at < file.bytes.length) {
                file.bytes[at] = (byte) b;
                at++;
            } else {
                full = true;
            }
        }

        /** Makes the strip a page of the file; false if there is no room for it. */
        boolean finish(int high, int across, int down) {
            if (full) {
                return false;
            }
            putWord(END);
            putWord(END);
            if (heldBits > 0) {
                putByte(held << 8 - heldBits);
            }
            if (full) {
                return false;
            }
            file.addPage(width, high, start, at - start, across, down);
            return true;
        }
    }

    /** Reads coded lines, as changes, from the bits of a strip. */
    private static final class LineReader {
        private static final int BITS_END = -1;
        private static final int NO_WORD = -2;
        private static final int PASS_TO_END = 3;
        private static final int WRONG_SHIFT = 4;
        private static final int RUN_TOO_LONG = 5;
        private static final int EMPTY_RUNS = 6;
        private static final int PICTURE_END = 7;
        private static final int LONGEST_WORD = 13;

        /* Each of these places has words of its own: what can't stand there is found at its first
           bit that none of them has. */
        private static final int LINE_BEGIN = 0;
        private static final int IN_LINE = 1;
        private static final int BEHIND_END = 2;
        private static final int WHITE_RUN = 3;
        private static final int BLACK_RUN = 4;
        private static final int ROOTS = 5;
        private static final int MOST_NODES = 512;

        private static final int PASS = 20;
        private static final int ACROSS = 21;
        private static final int END = 22;

        private final int[] tree = new int[2 * MOST_NODES];
        private int nodes = ROOTS;
        private byte[] bytes;
        private int at;
        private int end;
        private boolean turned;
        private int[] above = new int[WIDEST_PICTURE];
        private int aboveCount;
        int[] line = new int[WIDEST_PICTURE];
        int lineCount;
        private int width;
        private int a;
        private int colour;
        private int over;
        private int run;

        LineReader(byte[] bytes) {
            this.bytes = bytes;
            addModes(LINE_BEGIN);
            addModes(IN_LINE);
            addWord(LINE_BEGIN, Coder.END, END);
            addWord(BEHIND_END, Coder.END, END);
            addRuns(WHITE_RUN, Coder.WHITE_RESTS, Coder.WHITE_BLOCKS);
            addRuns(BLACK_RUN, Coder.BLACK_RESTS, Coder.BLACK_BLOCKS);
        }

        private void addModes(int root) {
            addWord(root, Coder.PASS, PASS);
            addWord(root, Coder.ACROSS, ACROSS);
            for (int i = 0; i < Coder.SHIFTS.length; i++) {
                addWord(root, Coder.SHIFTS[i], i);
            }
        }

        private void addRuns(int root, int[] rests, int[] blocks) {
            for (int i = 0; i < rests.length; i++) {
                addWord(root, rests[i], i);
            }
            for (int i = 0; i < blocks.length; i++) {
                addWord(root, blocks[i], 64 + 64 * i);
            }
            for (int i = 0; i < Coder.LONG_BLOCKS.length; i++) {
                addWord(root, Coder.LONG_BLOCKS[i], Coder.FIRST_LONG_BLOCK + 64 * i);
            }
        }

        /* A branch of the tree is 0 where no word goes on, below 0 where one ends. */
        private void addWord(int root, int word, int meaning) {
            int node = root;
            for (int bit = Coder.bitsOf(word) - 1; bit > 0; bit--) {
                int branch = 2 * node + (word >> bit & 1);
                if (tree[branch] == 0 && nodes < MOST_NODES) {
                    tree[branch] = nodes;
                    nodes++;
                }
                node = Math.max(0, tree[branch]);
            }
            tree[2 * node + (word & 1)] = -1 - meaning;
        }

        void begin(byte[] bytes, int place, int length, boolean turned) {
            this.bytes = bytes;
            this.turned = turned;
            at = 8 * Math.max(0, place);
            end = Math.min(8 * (place + length), 8 * bytes.length);
            aboveCount = 0;
            lineCount = 0;
        }

        /** Reads the next line: its fault, 0 without one, 7 if the picture's end stands there. */
        int readLine(int width) {
            this.width = width;
            turnOver();
            int word = nextWord(LINE_BEGIN);
            if (word == END) {
                int second = nextWord(BEHIND_END);
                return second < 0 ? -second : PICTURE_END;
            }
            for (int words = 0; words <= width; words++) {
                int b = firstAbove();
                int found;
                if (word < 0) {
                    found = -word;
                } else if (word == PASS) {
                    found = pass(Coder.changeAt(above, aboveCount, b + 1, width));
                } else if (word == ACROSS) {
                    found = goAcross();
                } else {
                    found = shift(Coder.changeAt(above, aboveCount, b, width) + word - Coder.MOST_SHIFT);
                }
                if (found != 0 || a >= width) {
                    return found;
                }
                word = nextWord(IN_LINE);
            }
            return 0;
        }

        private void turnOver() {
            int[] read = line;
            line = above;
            above = read;
            aboveCount = lineCount;
            lineCount = 0;
            a = -1;
            colour = 0;
            over = 0;
        }

        /* The number of b1 among the changes above. */
        private int firstAbove() {
            for (; over < aboveCount && over < above.length && above[over] <= a; over++) {
                /* a only grows, so what it has passed stays passed */
            }
            return (over & 1) == colour ? over : over + 1;
        }

        private int pass(int b2) {
            if (b2 >= width) {
                return PASS_TO_END;
            }
            spanTo(b2, colour);
            return 0;
        }

        private int shift(int a1) {
            if (a1 <= a || a1 > width) {
                return WRONG_SHIFT;
            }
            spanTo(a1, colour);
            colour = 1 - colour;
            return 0;
        }

        private int goAcross() {
            int from = Math.max(a, 0);
            int found = readRun(from, colour);
            if (found != 0) {
                return found;
            }
            int middle = from + run;
            found = readRun(middle, 1 - colour);
            if (found != 0) {
                return found;
            }
            if (middle + run == from) {
                return EMPTY_RUNS;
            }
            int to = middle + run;
            spanTo(middle, colour);
            spanTo(to, 1 - colour);
            return 0;
        }

        /** Reads a run into the field run: its fault, 0 without one. */
        private int readRun(int from, int runColour) {
            run = 0;
            for (int words = 0; words <= width; words++) {
                int dots = nextWord(runColour == 0 ? WHITE_RUN : BLACK_RUN);
                if (dots < 0) {
                    return -dots;
                }
                run += dots;
                if (from + run > width) {
                    return RUN_TOO_LONG;
                }
                if (dots < 64) {
                    return 0;
                }
            }
            return RUN_TOO_LONG;
        }

        /* A span without dots makes no change: runs of 0 dots may stand anywhere. */
        private void spanTo(int to, int spanColour) {
            int from = Math.max(a, 0);
            if (to > from && (lineCount & 1) != spanColour && lineCount < line.length) {
                line[lineCount] = from;
                lineCount++;
            }
            a = to;
        }

        private int nextWord(int root) {
            int node = root;
            for (int bits = 0; bits < LONGEST_WORD; bits++) {
                int i = at >> 3;
                if (at >= end || i < 0 || i >= bytes.length) {
                    return BITS_END;
                }
                int bit = bytes[i] >> (turned ? at & 7 : 7 - (at & 7)) & 1;
                at++;
                int branch = 2 * node + bit;
                int next = branch >= 0 && branch < tree.length ? tree[branch] : 0;
                if (next == 0) {
                    return NO_WORD;
                }
                if (next < 0) {
                    return -1 - next;
                }
                node = next;
            }
            return NO_WORD;
        }

        /** The 64 dots from the first on of the line that was read, those beyond it white. */
        long dotsFrom(int first) {
            long dots = 0;
            for (int i = 0; i < lineCount; i += 2) {
                int from = Math.max(0, Coder.changeAt(line, lineCount, i, width) - first);
                int to = Math.min(64, Coder.changeAt(line, lineCount, i + 1, width) - first);
                for (int x = from; x < to; x++) {
                    dots |= FIRST_DOT >>> x;
                }
            }
            return dots;
        }
    }

    /** The directories of a picture file on the tape. */
    private static final class PictureFile {
        static final int MOST_PAGES = 40;
        static final int PACKED = 4;
        private static final int PLAIN = 1;
        private static final int HEAD = 8;
        private static final int ENTRY = 12;
        private static final int MOST_COUNT = 4096;
        private static final int MOST_STRIPS = 8192;
        private static final int MOST_SIDE = 20000;
        private static final int MOST_FINENESS = 10000;
        private static final int HIGH_FIRST = 77;
        private static final int LOW_FIRST = 73;

        private static final int[] TAGS = {256, 257, 259, 262, 266, 273, 278, 279, 282, 283, 296};
        private static final int WIDTH = 0;
        private static final int HEIGHT = 1;
        private static final int CODE = 2;
        private static final int INK = 3;
        private static final int FILL = 4;
        private static final int PLACES = 5;
        private static final int ROWS = 6;
        private static final int LENGTHS = 7;
        static final int ACROSS = 8;
        static final int DOWN = 9;
        private static final int UNIT = 10;

        private static final int SHORT = 3;
        private static final int LONG = 4;
        private static final int TWO_LONGS = 5;

        private final byte[] bytes;
        private int length;
        private boolean highFirst;
        private long next;
        private long stripsBefore;
        /* Of each tag by its number in TAGS; a count of 0 says that it is not there. */
        private final int[] types = new int[TAGS.length];
        private final int[] counts = new int[TAGS.length];
        private final int[] places = new int[TAGS.length];

        PictureFile(byte[] bytes) {
            this.bytes = bytes;
        }

        /** Looks at all directories: the fault, or 0, and then the first page is the next one. */
        int check(int fileLength) {
            length = Math.min(fileLength, bytes.length);
            if (length < HEAD || bytes[0] != bytes[1] || bytes[0] != HIGH_FIRST && bytes[0] != LOW_FIRST) {
                return 1;
            }
            highFirst = bytes[0] == HIGH_FIRST;
            if (number(2, 2) != 42) {
                return 1;
            }
            stripsBefore = 0;
            next = number(4, 4);
            long first = next;
            for (int p = 0; p < MOST_PAGES; p++) {
                int found = readPage();
                if (found == 0) {
                    found = checkPage();
                }
                if (found != 0) {
                    return found;
                }
                if (!hasPage()) {
                    next = first;
                    return 0;
                }
            }
            return 2;
        }

        boolean hasPage() {
            return next != 0;
        }

        /** Reads the next directory: its fault, 0 without one. */
        int readPage() {
            long place = next;
            if (place < HEAD || (place & 1) != 0 || place + 2 > length) {
                return 2;
            }
            int entries = (int) number(place, 2);
            long end = place + 2 + ENTRY * entries;
            if (entries == 0 || end + 4 > length) {
                return 2;
            }
            Arrays.fill(counts, 0);
            int before = -1;
            for (int e = 0; e < entries; e++) {
                int at = (int) place + 2 + ENTRY * e;
                int tag = (int) number(at, 2);
                int found = tag <= before ? 3 : readEntry(at, indexOf(tag));
                if (found != 0) {
                    return found;
                }
                before = tag;
            }
            next = number(end, 4);
            return 0;
        }

        private int readEntry(int at, int tag) {
            if (tag < 0 || tag >= TAGS.length) {
                return 0;
            }
            int type = (int) number(at + 2, 2);
            long count = number(at + 4, 4);
            boolean many = tag == PLACES || tag == LENGTHS;
            if (!canBe(tag, type) || count == 0 || count > (many ? MOST_COUNT : 1)) {
                return 4;
            }
            long size = count * (type == SHORT ? 2 : type == LONG ? 4 : 8);
            long place = size <= 4 ? at + 8 : number(at + 8, 4);
            if (place + size > length) {
                return 5;
            }
            types[tag] = type;
            counts[tag] = (int) count;
            places[tag] = (int) place;
            return 0;
        }

        private static int indexOf(int tag) {
            for (int i = 0; i < TAGS.length; i++) {
                if (TAGS[i] == tag) {
                    return i;
                }
            }
            return NONE;
        }

        private static boolean canBe(int tag, int type) {
            if (tag == ACROSS || tag == DOWN) {
                return type == TWO_LONGS;
            }
            if (tag == CODE || tag == INK || tag == FILL || tag == UNIT) {
                return type == SHORT;
            }
            return type == SHORT || type == LONG;
        }

        private int checkPage() {
            if (counts[WIDTH] == 0 || counts[HEIGHT] == 0 || counts[PLACES] == 0 || counts[LENGTHS] == 0) {
                return 6;
            }
            if (!numbersCanBe()) {
                return 7;
            }
            long strips = strips();
            stripsBefore += strips;
            if (counts[PLACES] != strips || counts[LENGTHS] != strips || stripsBefore > MOST_STRIPS) {
                return 8;
            }
            for (int strip = 0; strip < strips; strip++) {
                long place = value(PLACES, strip, 0);
                if (place < HEAD || place + value(LENGTHS, strip, 0) > length) {
                    return 9;
                }
            }
            return 0;
        }

        private boolean numbersCanBe() {
            long ink = value(INK, 0, 0);
            long fill = value(FILL, 0, 1);
            long unit = value(UNIT, 0, 2);
            return width() >= 1 && width() <= MOST_SIDE
                    && height() >= 1 && height() <= MOST_SIDE
                    && (code() == PLAIN || code() == PACKED)
                    && ink <= 1 && fill >= 1 && fill <= 2 && unit >= 1 && unit <= 3
                    && rows() >= 1 && value(ACROSS, 1, 1) != 0 && value(DOWN, 1, 1) != 0;
        }

        long width() {
            return value(WIDTH, 0, 0);
        }

        long height() {
            return value(HEIGHT, 0, 0);
        }

        int code() {
            return (int) value(CODE, 0, PLAIN);
        }

        boolean inverted() {
            return value(INK, 0, 0) == 1;
        }

        boolean turned() {
            return value(FILL, 0, 1) == 2;
        }

        private long rows() {
            return value(ROWS, 0, value(HEIGHT, 0, 0));
        }

        long strips() {
            long rows = rows();
            return rows <= 0 ? 0 : (height() + rows - 1) / rows;
        }

        int linesOf(int strip) {
            return (int) Math.max(0, Math.min(rows(), height() - strip * rows()));
        }

        int placeOf(int strip) {
            return (int) value(PLACES, strip, 0);
        }

        int lengthOf(int strip) {
            return (int) value(LENGTHS, strip, 0);
        }

        int fineness(int tag) {
            long second = value(tag, 1, 1);
            long quotient = second <= 0 ? 0 : value(tag, 0, 300) / second;
            return (int) Math.max(1, Math.min(MOST_FINENESS, quotient));
        }

        private long value(int tag, int i, long missing) {
            if (tag < 0 || tag >= counts.length || counts[tag] == 0) {
                return missing;
            }
            int size = types[tag] == SHORT ? 2 : 4;
            return number(places[tag] + (long) i * size, size);
        }

        private long number(long place, int size) {
            if (place < 0 || place + size > length) {
                return 0;
            }
            long number = 0;
            for (int i = 0; i < size; i++) {
                int at = (int) place + (highFirst ? i : size - 1 - i);
                number = number << 8 | bytes[at] & 255;
            }
            return number;
        }
    }

    /** The page's size and turn, the state of the text on it, and where its places lie in dots. */
    private static final class Page {
        static final int INCH = 7200;
        private static final int[] SIZES = {1, 2, 3, 6, 26};
        private static final int[] ACROSS = {52200, 61200, 61200, 79200, 59528};
        private static final int[] DOWN = {75600, 79200, 100800, 122400, 84189};
        static final int WIDEST = 79200;
        private static final int FIRST_SIZE = 1;
        private static final int MOST_COPIES = 99;
        private static final int STACK_PLACES = 20;
        private static final int KEPT_NUMBERS = 13;
        private static final int KEPT_ROOM = KEPT_NUMBERS + 2 * STACK_PLACES;
        private static final int MOST_CALLS = 2;

        final int dpi;
        private int size;
        int orientation;
        int copies;
        private int top;
        private int length;
        private int left;
        private int right;
        int stepAcross;
        int stepDown;
        int x;
        int y;
        boolean wrap;
        boolean skip;
        int lineEnd;
        int font;
        private final int[] stack = new int[2 * STACK_PLACES];
        private int stacked;
        private final int[] kept = new int[MOST_CALLS * KEPT_ROOM];

        Page(int dpi) {
            this.dpi = dpi;
            reset();
        }

        void reset() {
            size = FIRST_SIZE;
            orientation = 0;
            stepAcross = 720;
            stepDown = 1200;
            wrap = false;
            skip = false;
            lineEnd = 0;
            copies = 1;
            font = 0;
            stacked = 0;
            setDefaults();
        }

        private void setDefaults() {
            top = 3600;
            length = height() - 7200;
            left = 0;
            right = width();
            setX(0);
            setY(home());
        }

        int sizeNumber() {
            return ofSize(SIZES);
        }

        static boolean isSize(int number) {
            return sizeIndex(number) >= 0;
        }

        private static int sizeIndex(int number) {
            for (int i = 0; i < SIZES.length; i++) {
                if (SIZES[i] == number) {
                    return i;
                }
            }
            return NONE;
        }

        void setSize(int number) {
            size = Math.max(0, sizeIndex(number));
            setDefaults();
        }

        void setOrientation(int number) {
            orientation = number;
            setDefaults();
        }

        private int ofSize(int[] table) {
            return size >= 0 && size < table.length ? table[size] : 0;
        }

        private boolean onSide() {
            return (orientation & 1) == 1;
        }

        int width() {
            return onSide() ? ofSize(DOWN) - 2880 : ofSize(ACROSS) - 3600;
        }

        int height() {
            return onSide() ? ofSize(ACROSS) : ofSize(DOWN);
        }

        int wide() {
            return ofSize(ACROSS) * dpi / INCH;
        }

        int high() {
            return ofSize(DOWN) * dpi / INCH;
        }

        int dotAcross(int place) {
            return (place + (onSide() ? 1440 : 1800)) * dpi / INCH;
        }

        int dotDown(int place) {
            return place * dpi / INCH;
        }

        void setX(long place) {
            x = (int) Math.max(0, Math.min(width(), place));
        }

        void setY(long place) {
            y = (int) Math.max(0, Math.min(height(), place));
        }

        private int home() {
            return top + stepDown * 3 / 4;
        }

        void goHome() {
            setY(home());
        }

        void moveAcross(long distance, boolean signed) {
            setX(signed ? x + distance : distance);
        }

        void moveDown(long distance, boolean signed) {
            setY(signed ? y + distance : top + distance);
        }

        void moveLines(long distance, boolean signed) {
            setY(signed ? y + distance : home() + distance);
        }

        void carriageReturn() {
            setX(left);
        }

        /** False if the line feed must eject, and nothing is done yet. */
        boolean lineFeed(int step) {
            int below = y + step;
            if (below > height() || skip && below > top + length) {
                return false;
            }
            y = below;
            return true;
        }

        void backspace() {
            setX(Math.max(x >= left ? left : 0, x - stepAcross));
        }

        void tab() {
            if (x < left) {
                setX(left);
            } else if (stepAcross > 0) {
                int stop = 8 * stepAcross;
                setX(Math.min(right, left + stop * (long) ((x - left) / stop + 1)));
            }
        }

        boolean fits(int step) {
            return x < right && x + step <= right;
        }

        void setCopies(int n) {
            copies = Math.max(1, Math.min(MOST_COPIES, n));
        }

        void setLineStep(long step) {
            if (step <= height()) {
                stepDown = (int) step;
            }
        }

        void setLinesAnInch(int n) {
            switch (n) {
                case 1: case 2: case 3: case 4: case 6: case 8: case 12: case 16: case 24: case 48:
                    stepDown = INCH / n;
                    break;
                default:
                    break;
            }
        }

        void setTop(int lines) {
            long place = (long) lines * stepDown;
            if (place <= height()) {
                top = (int) place;
                length = Math.max(0, height() - top - 3600);
            }
        }

        void setLength(int lines) {
            long text = (long) lines * stepDown;
            if (top + text <= height()) {
                length = (int) text;
            }
        }

        void setLeft(int columns) {
            long place = (long) columns * stepAcross;
            if (place < right) {
                left = (int) place;
                setX(Math.max(x, left));
            }
        }

        void setRight(int columns) {
            long place = (columns + 1L) * stepAcross;
            if (place > left) {
                right = (int) Math.min(width(), place);
                setX(Math.min(x, right));
            }
        }

        void clearMargins() {
            left = 0;
            right = width();
        }

        void pushPlace() {
            if (stacked >= 0 && stacked < STACK_PLACES) {
                stack[2 * stacked] = x;
                stack[2 * stacked + 1] = y;
                stacked++;
            }
        }

        void popPlace() {
            if (stacked > 0 && stacked <= STACK_PLACES) {
                stacked--;
                setX(stack[2 * stacked]);
                setY(stack[2 * stacked + 1]);
            }
        }

        /** Keeps the state ahead of a macro that is called, the level being 1 or 2. */
        void keep(int level) {
            if (level < 1 || level > MOST_CALLS) {
                return;
            }
            int at = (level - 1) * KEPT_ROOM;
            kept[at] = top;
            kept[at + 1] = length;
            kept[at + 2] = left;
            kept[at + 3] = right;
            kept[at + 4] = stepAcross;
            kept[at + 5] = stepDown;
            kept[at + 6] = x;
            kept[at + 7] = y;
            kept[at + 8] = wrap ? 1 : 0;
            kept[at + 9] = skip ? 1 : 0;
            kept[at + 10] = lineEnd;
            kept[at + 11] = font;
            kept[at + 12] = stacked;
            System.arraycopy(stack, 0, kept, at + KEPT_NUMBERS, stack.length);
        }

        void giveBack(int level) {
            if (level < 1 || level > MOST_CALLS) {
                return;
            }
            int at = (level - 1) * KEPT_ROOM;
            top = kept[at];
            length = kept[at + 1];
            left = Math.min(width(), kept[at + 2]);
            right = Math.min(width(), kept[at + 3]);
            stepAcross = kept[at + 4];
            stepDown = kept[at + 5];
            setX(kept[at + 6]);
            setY(kept[at + 7]);
            wrap = kept[at + 8] == 1;
            skip = kept[at + 9] == 1;
            lineEnd = kept[at + 10];
            font = kept[at + 11];
            stacked = kept[at + 12];
            System.arraycopy(kept, at + KEPT_NUMBERS, stack, 0, stack.length);
        }
    }

    /** The marks of a sheet, the ink they are laid with, and the band in which they are painted. */
    private static final class Sheet {
        private static final int MOST_BAND = 1024;
        private static final int MOST_MARKS = 4096;
        private static final int MOST_BYTES = 65536;

        private static final int BLACK = 0;
        private static final int WHITE = 1;
        private static final int SHADE = 2;
        private static final int HATCH = 3;
        private static final int OWN_INK = 5;

        /* A mark is six numbers: its place on the sheet, its dots across and down ahead of scaling,
           where its bytes begin, and its look, which has all that is small. */
        private static final int COLUMNS = 6;
        private static final int PLACE_X = 0;
        private static final int PLACE_Y = 1;
        private static final int WIDTH = 2;
        private static final int DEPTH = 3;
        private static final int BYTES = 4;
        private static final int LOOK = 5;
        private static final int SCALE_SHIFT = 2;
        private static final int INK_SHIFT = 5;
        private static final int NUMBER_SHIFT = 7;
        private static final int INK_OPAQUE = 1 << 14;
        private static final int SOURCE_OPAQUE = 1 << 15;
        private static final int ALL_BLACK = 1 << 16;

        private final Page page;
        private final int[] marks = new int[MOST_MARKS * COLUMNS];
        int count;
        private final byte[] dots = new byte[MOST_BYTES];
        int used;
        boolean overrun;
        boolean due;
        final long[] band;
        final int bandLines;
        int bandWords;
        private int ink;
        private int inkNumber;
        private boolean inkOpaque;
        private boolean sourceOpaque;
        private int ruleWidth;
        private int ruleHeight;
        private int pattern;

        Sheet(Page page, int lines) {
            this.page = page;
            bandLines = Math.max(1, Math.min(MOST_BAND, lines));
            band = new long[bandLines * wordsOf(Page.WIDEST * page.dpi / Page.INCH)];
        }

        private static int wordsOf(int wide) {
            return (wide + 63) / 64;
        }

        void endJob() {
            clear();
            ink = BLACK;
            inkNumber = 0;
            inkOpaque = false;
            sourceOpaque = false;
            ruleWidth = 0;
            ruleHeight = 0;
            pattern = 0;
        }

        void clear() {
            count = 0;
            used = 0;
            overrun = false;
            due = false;
        }

        void setRuleWidth(long units) {
            ruleWidth = (int) units;
        }

        void setRuleHeight(long units) {
            ruleHeight = (int) units;
        }

        void setPattern(int n) {
            pattern = n;
        }

        private static boolean isInk(int kind, int number) {
            return kind == BLACK || kind == WHITE
                    || kind == SHADE && number >= 1 && number <= 100
                    || kind == HATCH && number >= 1 && number <= 6;
        }

        void setInk(int kind) {
            if (isInk(kind, pattern)) {
                ink = kind;
                inkNumber = pattern;
            }
        }

        void setSourceOpaque(int n) {
            sourceOpaque = n == 1 || n != 0 && sourceOpaque;
        }

        void setInkOpaque(int n) {
            inkOpaque = n == 1 || n != 0 && inkOpaque;
        }

        void layRule(int n) {
            int wide = ruleDots(ruleWidth);
            int high = ruleDots(ruleHeight);
            int kind = n == OWN_INK ? ink : n;
            int number = n == OWN_INK ? inkNumber : pattern;
            if (wide == 0 || high == 0 || !isInk(kind, number)) {
                return;
            }
            due = true;
            boolean opaque = inkOpaque || n == WHITE;
            int look = inkLook(kind, number, opaque) | ALL_BLACK | 1 << SCALE_SHIFT;
            if (hasRoom(0)) {
                addMark(page.dotAcross(page.x), page.dotDown(page.y), wide, high, look);
            }
        }

        private int ruleDots(int units) {
            return (units * page.dpi + Page.INCH - 1) / Page.INCH;
        }

        void layGlyph(FontShelf fonts, int glyph) {
            int width = fonts.ofGlyph(glyph, FontShelf.WIDTH);
            int depth = fonts.ofGlyph(glyph, FontShelf.DEPTH);
            int bytes = fonts.ofGlyph(glyph, FontShelf.BYTES);
            if (bytes == 0 || !hasRoom(bytes)) {
                return;
            }
            int i = page.dotAcross(page.x) + fonts.ofGlyph(glyph, FontShelf.LEFT);
            int j = page.dotDown(page.y) - fonts.ofGlyph(glyph, FontShelf.TOP);
            int from = fonts.ofGlyph(glyph, FontShelf.AT);
            addMark(i, j, width, depth, inkLook(ink, inkNumber, inkOpaque) | 1 << SCALE_SHIFT);
            addBytes(fonts.dots, from, bytes);
        }

        void layRow(Raster raster, int blackDots) {
            due = true;
            int bytes = (blackDots + 7) / 8;
            if (!hasRoom(bytes)) {
                return;
            }
            int i = page.dotAcross(raster.x);
            int j = page.dotDown(raster.y) + raster.scale * raster.row;
            int look = inkLook(ink, inkNumber, inkOpaque) | raster.scale << SCALE_SHIFT;
            addMark(i, j, blackDots, 1, look);
            addBytes(raster.seed, 0, bytes);
        }

        private int inkLook(int kind, int number, boolean opaque) {
            int numberLook = kind == SHADE || kind == HATCH ? number << NUMBER_SHIFT : 0;
            return page.orientation | kind << INK_SHIFT | numberLook
                    | (opaque ? INK_OPAQUE : 0) | (sourceOpaque ? SOURCE_OPAQUE : 0);
        }

        private boolean hasRoom(int bytes) {
            if (count >= MOST_MARKS || used + bytes > MOST_BYTES) {
                overrun = true;
                return false;
            }
            return true;
        }

        private void addMark(int i, int j, int width, int depth, int look) {
            int at = count * COLUMNS;
            if (at < 0 || at + COLUMNS > marks.length) {
                return;
            }
            int right = page.wide() - 1;
            int bottom = page.high() - 1;
            switch (page.orientation) {
                case 0: setPlace(at, i, j); break;
                case 1: setPlace(at, j, bottom - i); break;
                case 2: setPlace(at, right - i, bottom - j); break;
                default: setPlace(at, right - j, i); break;
            }
            marks[at + WIDTH] = width;
            marks[at + DEPTH] = depth;
            marks[at + BYTES] = used;
            marks[at + LOOK] = look;
            count++;
        }

        private void setPlace(int at, int x, int y) {
            marks[at + PLACE_X] = x;
            marks[at + PLACE_Y] = y;
        }

        private void addBytes(byte[] from, int first, int bytes) {
            if (first >= 0 && bytes >= 0 && first + bytes <= from.length && used + bytes <= dots.length) {
                System.arraycopy(from, first, dots, used, bytes);
                used += bytes;
            }
        }

        /** Paints the lines of a band; false if no mark touches them, and the band is not to be used. */
        boolean paintBand(int first, int lines) {
            boolean touched = false;
            bandWords = wordsOf(page.wide());
            for (int at = 0; at < count * COLUMNS && at + COLUMNS <= marks.length; at += COLUMNS) {
                int turn = marks[at + LOOK] & 3;
                int scale = marks[at + LOOK] >> SCALE_SHIFT & 7;
                int tall = scale * marks[at + ((turn & 1) == 0 ? DEPTH : WIDTH)];
                int y = marks[at + PLACE_Y];
                int above = turn == 1 || turn == 2 ? y - tall + 1 : y;
                int from = Math.max(first, above);
                int to = Math.min(first + lines, above + tall);
                if (from < to && !touched) {
                    Arrays.fill(band, 0);
                    touched = true;
                }
                for (int line = from; line < to; line++) {
                    paintLine(at, line, (line - first) * bandWords);
                }
            }
            return touched;
        }

        private void paintLine(int at, int y, int row) {
            int look = marks[at + LOOK];
            int turn = look & 3;
            int broad = (look >> SCALE_SHIFT & 7) * marks[at + ((turn & 1) == 0 ? WIDTH : DEPTH)];
            int x = marks[at + PLACE_X];
            int leftmost = turn >= 2 ? x - broad + 1 : x;
            int from = Math.max(0, leftmost);
            int to = Math.min(page.wide(), leftmost + broad);
            if (from >= to) {
                return;
            }
            long black = inkWord(look >> INK_SHIFT & 3, look >> NUMBER_SHIFT & 127, y);
            for (int word = from / 64; word <= (to - 1) / 64; word++) {
                int first = Math.max(from, word * 64);
                int last = Math.min(to, word * 64 + 64) - 1;
                long span = -1L >>> (first & 63) & -1L << 63 - (last & 63);
                long source = (look & ALL_BLACK) != 0 ? span : sourceWord(at, y, first, last);
                int i = row + word;
                if (i >= 0 && i < band.length) {
                    band[i] = laid(band[i], span, source, black, look);
                }
            }
        }

        private static long laid(long before, long span, long source, long black, int look) {
            long whitened = 0;
            if ((look & SOURCE_OPAQUE) != 0) {
                whitened = span & ~source;
            }
            if ((look & INK_OPAQUE) != 0) {
                whitened |= source & ~black;
            }
            return before & ~whitened | source & black;
        }

        /* The dots first to last of a line, all of one word, that are black in the mark. */
        private long sourceWord(int at, int y, int first, int last) {
            int look = marks[at + LOOK];
            int turn = look & 3;
            int scale = Math.max(1, look >> SCALE_SHIFT & 7);
            int lineBytes = (marks[at + WIDTH] + 7) / 8;
            int down = turn == 1 || turn == 2 ? marks[at + PLACE_Y] - y : y - marks[at + PLACE_Y];
            long source = 0;
            for (int x = first; x <= last; x++) {
                int across = turn >= 2 ? marks[at + PLACE_X] - x : x - marks[at + PLACE_X];
                int p = ((turn & 1) == 0 ? across : down) / scale;
                int q = ((turn & 1) == 0 ? down : across) / scale;
                int i = marks[at + BYTES] + q * lineBytes + (p >> 3);
                if (i >= 0 && i < dots.length && (dots[i] >> 7 - (p & 7) & 1) == 1) {
                    source |= FIRST_DOT >>> (x & 63);
                }
            }
            return source;
        }

        /* Inks come again every 8 or 16 dots: so all words of a line have the same black dots. */
        private static long inkWord(int kind, int number, int y) {
            if (kind == BLACK || kind == WHITE) {
                return kind == BLACK ? -1L : 0;
            }
            long dots = 0;
            for (int x = 0; x < 16; x++) {
                boolean black = kind == SHADE ? inShade(x & 7, y & 7, number) : inHatch(x, y & 15, number);
                dots = dots << 1 | (black ? 1 : 0);
            }
            dots |= dots << 16;
            return dots | dots << 32;
        }

        private static boolean inShade(int i, int j, int shade) {
            int order = 0;
            for (int bit = 0; bit < 3; bit++) {
                order += (32 >> 2 * bit) * ((i ^ j) >> bit & 1) + (16 >> 2 * bit) * (j >> bit & 1);
            }
            return order < (64 * shade + 99) / 100;
        }

        private static boolean inHatch(int u, int v, int hatch) {
            boolean across = v == 7 || v == 8;
            boolean down = u == 7 || u == 8;
            boolean rising = (u + v & 15) < 2;
            boolean falling = (u - v & 15) < 2;
            switch (hatch) {
                case 1: return across;
                case 2: return down;
                case 3: return rising;
                case 4: return falling;
                case 5: return across || down;
                case 6: return rising || falling;
                default: return false;
            }
        }
    }

    /** The fonts that were sent, their glyphs, and the wishes by which one of them is chosen. */
    private static final class FontShelf {
        private static final int MOST_FONTS = 32;
        private static final int MOST_GLYPHS = 256;
        private static final int MOST_BYTES = 16384;
        private static final int WIDEST_STEP = 20000;
        private static final int MOST_CODE = 255;

        static final int SET = 0;
        static final int SPACING = 1;
        static final int PITCH = 2;
        static final int HEIGHT = 3;
        static final int STYLE = 4;
        static final int WEIGHT = 5;
        static final int FACE = 6;
        private static final int ATTRIBUTES = 7;
        private static final int[] LEAST = {0, 0, 1, 1, 0, -7, 0};
        private static final int[] MOST = {2047, 1, 57600, 99999, 32767, 7, 65535};
        private static final int[] SIZES = {2, 1, 2, 4, 2, 1, 2};
        private static final int FONT_HEAD = 14;
        private static final int[] FIRST_WISH = {277, 0, 1000, 1200, 0, 0, 3};
        private static final int COMMON_SET = 277;

        private static final int OWNER = 0;
        private static final int CODE = 1;
        static final int LEFT = 2;
        static final int TOP = 3;
        static final int WIDTH = 4;
        static final int DEPTH = 5;
        private static final int STEP = 6;
        static final int AT = 7;
        static final int BYTES = 8;
        private static final int COLUMNS = 9;
        private static final int GLYPH_HEAD = 10;
        private static final int FURTHEST = 16384;
        private static final int LARGEST = 128;

        private final int[] ids = new int[MOST_FONTS];
        private final int[] attributes = new int[MOST_FONTS * ATTRIBUTES];
        private final boolean[] permanent = new boolean[MOST_FONTS];
        int fonts;
        private final int[] glyphs = new int[MOST_GLYPHS * COLUMNS];
        int glyphCount;
        final byte[] dots = new byte[MOST_BYTES];
        private int used;
        private final int[] wishes = new int[2 * ATTRIBUTES];
        private final int[] pins = new int[2];
        private int id;
        private int code;
        /* Choosing is dear, and every character asks for it: so it is done when something has changed. */
        private final int[] chosen = new int[2];
        private boolean chosenKnown;
        private final boolean[] left = new boolean[MOST_FONTS];
        private final int[] coming = new int[ATTRIBUTES];

        FontShelf() {
            endJob();
        }

        void endJob() {
            dropPassing();
            for (int i = 0; i < wishes.length; i++) {
                wishes[i] = FIRST_WISH[i % ATTRIBUTES];
            }
            Arrays.fill(pins, NONE);
            id = 0;
            code = 0;
            chosenKnown = false;
            settle();
        }

        void setId(int n) {
            id = n;
        }

        void setCode(int n) {
            if (n <= MOST_CODE) {
                code = n;
            }
        }

        /** What * c F says, but for 1. */
        void manage(int n) {
            int slot = slotOf(id);
            chosenKnown = false;
            if (n == 0) {
                fonts = 0;
                glyphCount = 0;
                used = 0;
            } else if (n == 2) {
                removeFont(slot);
            } else if (n == 3) {
                removeGlyph(glyphOf(id, code));
            } else if ((n == 4 || n == 5) && slot >= 0) {
                permanent[slot] = n == 5;
            }
        }

        void dropPassing() {
            chosenKnown = false;
            for (int slot = Math.min(fonts, MOST_FONTS) - 1; slot >= 0; slot--) {
                if (!permanent[slot]) {
                    removeFont(slot);
                }
            }
        }

        private int slotOf(int fontId) {
            for (int slot = 0; slot < fonts && slot < ids.length; slot++) {
                if (ids[slot] == fontId) {
                    return slot;
                }
            }
            return NONE;
        }

        private int glyphOf(int fontId, int glyphCode) {
            for (int g = 0; g < glyphCount && g < MOST_GLYPHS; g++) {
                if (glyphs[g * COLUMNS + CODE] == glyphCode && glyphs[g * COLUMNS + OWNER] == fontId) {
                    return g;
                }
            }
            return NONE;
        }

        int ofGlyph(int glyph, int column) {
            int at = glyph * COLUMNS + column;
            return at >= 0 && at < glyphs.length ? glyphs[at] : 0;
        }

        private void removeFont(int slot) {
            if (slot < 0 || slot >= fonts || slot >= ids.length) {
                return;
            }
            /* Downwards, for a glyph that goes is followed in its place by the last one. */
            for (int g = glyphCount - 1; g >= 0; g--) {
                if (ofGlyph(g, OWNER) == ids[slot]) {
                    removeGlyph(g);
                }
            }
            for (int behind = slot + 1; behind < fonts && behind < MOST_FONTS; behind++) {
                ids[behind - 1] = ids[behind];
                permanent[behind - 1] = permanent[behind];
                System.arraycopy(attributes, behind * ATTRIBUTES, attributes, (behind - 1) * ATTRIBUTES, ATTRIBUTES);
            }
            fonts--;
        }

        private void removeGlyph(int glyph) {
            if (glyph < 0 || glyph >= glyphCount) {
                return;
            }
            int at = ofGlyph(glyph, AT);
            int bytes = ofGlyph(glyph, BYTES);
            System.arraycopy(dots, at + bytes, dots, at, used - at - bytes);
            used -= bytes;
            glyphCount--;
            System.arraycopy(glyphs, glyphCount * COLUMNS, glyphs, glyph * COLUMNS, COLUMNS);
            for (int g = 0; g < glyphCount; g++) {
                if (glyphs[g * COLUMNS + AT] > at) {
                    glyphs[g * COLUMNS + AT] -= bytes;
                }
            }
        }

        void loadFont(byte[] data, int count) {
            int slot = slotOf(id);
            if (count < FONT_HEAD || data.length < FONT_HEAD || !readAttributes(data)
                    || slot < 0 && fonts >= MOST_FONTS) {
                return;
            }
            removeFont(slot);
            chosenKnown = false;
            if (fonts >= 0 && fonts < MOST_FONTS) {
                ids[fonts] = id;
                permanent[fonts] = false;
                System.arraycopy(coming, 0, attributes, fonts * ATTRIBUTES, ATTRIBUTES);
                fonts++;
            }
        }

        private boolean readAttributes(byte[] data) {
            int at = 0;
            for (int a = 0; a < ATTRIBUTES; a++) {
                long number = 0;
                for (int i = 0; i < SIZES[a] && at < data.length; i++) {
                    number = number << 8 | data[at] & 255;
                    at++;
                }
                if (a == WEIGHT) {
                    number = (byte) number;
                }
                if (!canBe(a, number)) {
                    return false;
                }
                coming[a] = (int) number;
            }
            return true;
        }

        private static boolean canBe(int attribute, long number) {
            return attribute >= 0 && attribute < ATTRIBUTES
                    && number >= LEAST[attribute] && number <= MOST[attribute];
        }

        private static int pairAt(byte[] data, int at) {
            return data[at] << 8 | data[at + 1] & 255;
        }

        void loadGlyph(byte[] data, int count) {
            if (count < GLYPH_HEAD || data.length < count || slotOf(id) < 0) {
                return;
            }
            int leftmost = pairAt(data, 0);
            int top = pairAt(data, 2);
            int width = pairAt(data, 4);
            int depth = pairAt(data, 6);
            int step = pairAt(data, 8);
            if (leftmost < -FURTHEST || leftmost >= FURTHEST || top < -FURTHEST || top >= FURTHEST
                    || width < 0 || width > LARGEST || depth < 0 || depth > LARGEST || step < 0) {
                return;
            }
            int old = glyphOf(id, code);
            int bytes = depth * ((width + 7) / 8);
            int usedThen = used + bytes - (old >= 0 ? ofGlyph(old, BYTES) : 0);
            if (old < 0 && glyphCount >= MOST_GLYPHS || usedThen > MOST_BYTES) {
                return;
            }
            removeGlyph(old);
            int at = glyphCount * COLUMNS;
            glyphs[at + OWNER] = id;
            glyphs[at + CODE] = code;
            glyphs[at + LEFT] = leftmost;
            glyphs[at + TOP] = top;
            glyphs[at + WIDTH] = width;
            glyphs[at + DEPTH] = depth;
            glyphs[at + STEP] = step;
            glyphs[at + AT] = used;
            glyphs[at + BYTES] = bytes;
            glyphCount++;
            addDots(data, count, bytes);
        }

        /* Bits beyond the width may stay: marks are painted by their width. */
        private void addDots(byte[] data, int count, int bytes) {
            for (int i = GLYPH_HEAD; i < GLYPH_HEAD + bytes && used < dots.length; i++) {
                dots[used] = i < count && i < data.length ? data[i] : 0;
                used++;
            }
        }

        void wish(int which, int attribute, long number) {
            int at = which * ATTRIBUTES + attribute;
            if (canBe(attribute, number) && which >= 0 && which < pins.length) {
                wishes[at] = (int) number;
                pins[which] = NONE;
                chosenKnown = false;
            }
        }

        void pin(int which, int fontId) {
            int slot = slotOf(fontId);
            if (slot >= 0 && which >= 0 && which < pins.length) {
                pins[which] = fontId;
                System.arraycopy(attributes, slot * ATTRIBUTES, wishes, which * ATTRIBUTES, ATTRIBUTES);
                chosenKnown = false;
            }
        }

        int chosenId(int which) {
            int slot = chosenSlot(which);
            return slot >= 0 && slot < ids.length ? ids[slot] : NONE;
        }

        int stepOf(int which, int character, int otherwise) {
            int slot = chosenSlot(which);
            int glyph = slot >= 0 && attribute(slot, SPACING) == 1 ? glyphOf(ids[slot], character) : NONE;
            return glyph >= 0 ? Math.min(WIDEST_STEP, ofGlyph(glyph, STEP)) : otherwise;
        }

        /** The glyph that is painted, NONE without one. */
        int glyphFor(int which, int character) {
            int slot = chosenSlot(which);
            return slot >= 0 ? glyphOf(ids[slot], character) : NONE;
        }

        private int chosenSlot(int which) {
            int slot = which >= 0 && which < chosen.length ? chosen[which] : NONE;
            return slot < ids.length ? slot : NONE;
        }

        private int attribute(int slot, int which) {
            int at = slot * ATTRIBUTES + which;
            return at >= 0 && at < attributes.length ? attributes[at] : 0;
        }

        /** Chooses the fonts anew, if what they were chosen by has changed. */
        void settle() {
            if (!chosenKnown) {
                chosen[0] = choose(0);
                chosen[1] = choose(1);
                chosenKnown = true;
            }
        }

        private int choose(int which) {
            int pinned = pins[which] == NONE ? NONE : slotOf(pins[which]);
            if (pinned >= 0) {
                return pinned;
            }
            int wish = which * ATTRIBUTES;
            for (int slot = 0; slot < left.length; slot++) {
                left[slot] = slot < fonts;
            }
            if (!keepThose(SET, wishes[wish + SET])) {
                keepThose(SET, COMMON_SET);
            }
            keepThose(SPACING, wishes[wish + SPACING]);
            if (wishes[wish + SPACING] == 0 && allLeftEven()) {
                keepThose(PITCH, bestPitch(wishes[wish + PITCH]));
            }
            keepThose(HEIGHT, nearestHeight(wishes[wish + HEIGHT]));
            keepThose(STYLE, wishes[wish + STYLE]);
            if (!keepThose(WEIGHT, wishes[wish + WEIGHT])) {
                keepThose(WEIGHT, bestWeight(wishes[wish + WEIGHT]));
            }
            keepThose(FACE, wishes[wish + FACE]);
            return lastLeft();
        }

        /* If none has the number all stay, and the answer is false. */
        private boolean keepThose(int attribute, int number) {
            boolean any = false;
            for (int slot = 0; slot < fonts && slot < left.length; slot++) {
                any |= left[slot] && attribute(slot, attribute) == number;
            }
            for (int slot = 0; slot < fonts && slot < left.length && any; slot++) {
                left[slot] &= attribute(slot, attribute) == number;
            }
            return any;
        }

        private boolean allLeftEven() {
            for (int slot = 0; slot < fonts && slot < left.length; slot++) {
                if (left[slot] && attribute(slot, SPACING) != 0) {
                    return false;
                }
            }
            return true;
        }

        private int bestPitch(int wish) {
            int above = least(PITCH, wish);
            return above == NONE ? greatest(PITCH, MOST[PITCH]) : above;
        }

        private int nearestHeight(int wish) {
            int above = least(HEIGHT, wish);
            int below = greatest(HEIGHT, wish);
            if (above == NONE || below == NONE) {
                return Math.max(above, below);
            }
            return wish - below < above - wish ? below : above;
        }

        /* Weights may be below 0 and NONE is one of them: so they are looked for one by one. */
        private int bestWeight(int wish) {
            int step = wish >= 0 ? 1 : -1;
            for (int far = 1; far <= MOST[WEIGHT] - LEAST[WEIGHT]; far++) {
                if (anyLeft(WEIGHT, wish + step * far)) {
                    return wish + step * far;
                }
            }
            for (int far = 1; far <= MOST[WEIGHT] - LEAST[WEIGHT]; far++) {
                if (anyLeft(WEIGHT, wish - step * far)) {
                    return wish - step * far;
                }
            }
            return wish;
        }

        private boolean anyLeft(int attribute, int number) {
            for (int slot = 0; slot < fonts && slot < left.length; slot++) {
                if (left[slot] && attribute(slot, attribute) == number) {
                    return true;
                }
            }
            return false;
        }

        private int least(int attribute, int from) {
            int found = NONE;
            for (int slot = 0; slot < fonts && slot < left.length; slot++) {
                int number = attribute(slot, attribute);
                if (left[slot] && number >= from && (found == NONE || number < found)) {
                    found = number;
                }
            }
            return found;
        }

        private int greatest(int attribute, int to) {
            int found = NONE;
            for (int slot = 0; slot < fonts && slot < left.length; slot++) {
                int number = attribute(slot, attribute);
                if (left[slot] && number <= to && number > found) {
                    found = number;
                }
            }
            return found;
        }

        private int lastLeft() {
            int last = NONE;
            int lastPassing = NONE;
            for (int slot = 0; slot < fonts && slot < left.length; slot++) {
                if (left[slot]) {
                    last = slot;
                    lastPassing = permanent[slot] ? lastPassing : slot;
                }
            }
            return lastPassing == NONE ? last : lastPassing;
        }
    }

    /** The macros, the one that is being read, and what the X's of a sequence have said so far. */
    private static final class Macros {
        private static final int MOST_MACROS = 32;
        static final int MOST_BYTES = 16384;
        private static final int MOST_HAD = 65536;
        static final int MOST_SAID = 8;
        private static final byte[] READING_ENDS = {27, 38, 102, 49, 88};

        private final int[] ids = new int[MOST_MACROS];
        private final int[] places = new int[MOST_MACROS];
        private final int[] lengths = new int[MOST_MACROS];
        private final boolean[] permanent = new boolean[MOST_MACROS];
        int count;
        private final byte[] bytes = new byte[MOST_BYTES];
        int used;
        int had;
        private int id;
        boolean reading;
        private int readingId;
        private final byte[] collected = new byte[MOST_BYTES + READING_ENDS.length];
        private int collectedCount;
        private int matched;
        final int[] saidActs = new int[MOST_SAID];
        final int[] saidIds = new int[MOST_SAID];
        int said;

        void endJob() {
            forget();
            had = 0;
            id = 0;
            dropPassing();
        }

        /** Throws away what is not finished. */
        void forget() {
            reading = false;
            said = 0;
        }

        void setId(int n) {
            id = n;
        }

        void say(int act) {
            if (said < MOST_SAID) {
                saidActs[said] = act;
                saidIds[said] = id;
                said++;
            }
        }

        void beginReading(int macroId) {
            remove(slotOf(macroId));
            reading = true;
            readingId = macroId;
            collectedCount = 0;
            matched = 0;
        }

        /* The first byte of the row that ends the reading stands in it only once: so behind a byte
           that does not go on with it only that one can begin it anew. */
        void collect(int b) {
            if (collectedCount < collected.length) {
                collected[collectedCount] = (byte) b;
            }
            collectedCount++;
            if (matched < READING_ENDS.length && b == READING_ENDS[matched]) {
                matched++;
            } else {
                matched = b == READING_ENDS[0] ? 1 : 0;
            }
            if (matched == READING_ENDS.length) {
                matched = 0;
                reading = false;
                store(collectedCount - READING_ENDS.length);
            }
        }

        private void store(int length) {
            if (count >= MOST_MACROS || length < 0 || used + length > MOST_BYTES) {
                return;
            }
            System.arraycopy(collected, 0, bytes, used, length);
            ids[count] = readingId;
            places[count] = used;
            lengths[count] = length;
            permanent[count] = false;
            used += length;
            count++;
        }

        /** What X says of a macro that is there, but for reading and doing it. */
        void manage(int act, int macroId) {
            int slot = slotOf(macroId);
            if (act == 6) {
                count = 0;
                used = 0;
            } else if (act == 7) {
                dropPassing();
            } else if (act == 8) {
                remove(slot);
            } else if ((act == 9 || act == 10) && slot >= 0) {
                permanent[slot] = act == 10;
            }
        }

        private void dropPassing() {
            for (int slot = count - 1; slot >= 0; slot--) {
                if (!permanent[slot]) {
                    remove(slot);
                }
            }
        }

        private int slotOf(int macroId) {
            for (int slot = 0; slot < count && slot < ids.length; slot++) {
                if (ids[slot] == macroId) {
                    return slot;
                }
            }
            return NONE;
        }

        private void remove(int slot) {
            if (slot < 0 || slot >= count) {
                return;
            }
            int place = places[slot];
            int length = lengths[slot];
            System.arraycopy(bytes, place + length, bytes, place, used - place - length);
            used -= length;
            for (int behind = slot + 1; behind < count; behind++) {
                ids[behind - 1] = ids[behind];
                places[behind - 1] = places[behind] - length;
                lengths[behind - 1] = lengths[behind];
                permanent[behind - 1] = permanent[behind];
            }
            count--;
        }

        /** Copies the bytes of a macro that is to be done: how many, NONE if it is passed over. */
        int fetch(int macroId, byte[] to, int at) {
            int slot = slotOf(macroId);
            if (slot < 0 || had + lengths[slot] > MOST_HAD || at < 0 || at + lengths[slot] > to.length) {
                return NONE;
            }
            System.arraycopy(bytes, places[slot], to, at, lengths[slot]);
            had += lengths[slot];
            return lengths[slot];
        }
    }

    /** The raster that is open, and what is told for the next one. */
    private static final class Raster {
        private static final int MOST_BYTES = 640;
        private static final int MOST_SIDE = 5119;
        private static final int LOWEST_ROW = 30000;

        private final int dpi;
        boolean open;
        int x;
        int y;
        int scale;
        int row;
        private int width;
        private int height;
        private int rowBytes;
        final byte[] seed = new byte[MOST_BYTES];
        private int resolution;
        private int method;
        private int nextWidth;
        private int nextHeight;

        Raster(int dpi) {
            this.dpi = dpi;
            endJob();
        }

        void endJob() {
            open = false;
            resolution = 75;
            method = 0;
            nextWidth = 0;
            nextHeight = 0;
        }

        void setResolution(int n) {
            if (!open && (n == 75 || n == 100 || n == 150 || n == 300)) {
                resolution = n;
            }
        }

        void setNextWidth(int n) {
            nextWidth = n <= MOST_SIDE ? n : nextWidth;
        }

        void setNextHeight(int n) {
            nextHeight = n <= MOST_SIDE ? n : nextHeight;
        }

        void setMethod(int n) {
            method = n >= 0 && n <= 3 ? n : method;
        }

        void openAt(int placeX, int placeY) {
            if (open) {
                return;
            }
            open = true;
            x = placeX;
            y = placeY;
            width = nextWidth;
            height = nextHeight;
            rowBytes = width == 0 ? MOST_BYTES : (width + 7) / 8;
            scale = resolution <= 0 ? 1 : Math.max(1, dpi / resolution);
            row = 0;
            Arrays.fill(seed, (byte) 0);
        }

        void skipRows(int n) {
            if (open) {
                int lowest = height == 0 ? LOWEST_ROW : height;
                row = Math.max(row, Math.min(lowest, row + n));
                Arrays.fill(seed, (byte) 0);
            }
        }

        /** Ends the raster: how many lines it has gone down. */
        int close() {
            open = false;
            method = 0;
            row = height == 0 ? row : height;
            return scale * row;
        }

        private boolean isFull() {
            return height != 0 && row >= height;
        }

        void endRow() {
            row = isFull() ? row : row + 1;
        }

        /** Makes the seed the next row: its dots up to the last black one, 0 if no row can come. */
        int unpack(byte[] data, int count) {
            if (isFull()) {
                return 0;
            }
            int bytes = Math.min(count, data.length);
            if (method != 3) {
                Arrays.fill(seed, (byte) 0);
            }
            switch (method) {
                case 0: unpackPlain(data, bytes); break;
                case 1: unpackPairs(data, bytes); break;
                case 2: unpackRuns(data, bytes); break;
                default: unpackChanges(data, bytes); break;
            }
            return blackDots();
        }

        private void put(int place, byte b) {
            if (place >= 0 && place < rowBytes && place < seed.length) {
                seed[place] = b;
            }
        }

        private void unpackPlain(byte[] data, int bytes) {
            for (int i = 0; i < bytes; i++) {
                put(i, data[i]);
            }
        }

        private void unpackPairs(byte[] data, int bytes) {
            int place = 0;
            for (int i = 0; i + 1 < bytes; i += 2) {
                int times = (data[i] & 255) + 1;
                for (int t = 0; t < times; t++) {
                    put(place + t, data[i + 1]);
                }
                place += times;
            }
        }

        private void unpackRuns(byte[] data, int bytes) {
            int place = 0;
            int next = 0;
            for (int i = 0; i < bytes; i = next) {
                int c = data[i] & 255;
                int times = c <= 127 ? c + 1 : c == 128 ? 0 : 257 - c;
                boolean same = c > 128;
                next = i + 1 + (c <= 127 ? times : same ? 1 : 0);
                for (int t = 0; t < times; t++) {
                    int from = same ? i + 1 : i + 1 + t;
                    if (from < bytes) {
                        put(place + t, data[from]);
                    }
                }
                place += times;
            }
        }

        private void unpackChanges(byte[] data, int bytes) {
            int place = 0;
            int next = 0;
            for (int i = 0; i < bytes; i = next) {
                int c = data[i] & 255;
                int offset = c & 31;
                boolean more = offset == 31;
                next = i + 1;
                for (; more && next < bytes; next++) {
                    offset += data[next] & 255;
                    more = data[next] == -1;
                }
                place += offset;
                int end = next + (c >> 5) + 1;
                for (; next < end && next < bytes; next++) {
                    put(place, data[next]);
                    place++;
                }
            }
        }

        private int blackDots() {
            int limit = width == 0 ? 8 * rowBytes : width;
            for (int i = Math.min(rowBytes, seed.length) - 1; i >= 0; i--) {
                int beyond = Math.max(0, 8 * i + 8 - limit);
                int black = (seed[i] & 255) >> beyond;
                for (int bit = beyond; black != 0 && bit < 8; bit++) {
                    if ((seed[i] >> bit & 1) == 1) {
                        return 8 * i + 8 - bit;
                    }
                }
            }
            return 0;
        }
    }

    /** Parts the bytes of streams and macros into characters, control codes and sequences. */
    private static final class Parser {
        /* What a byte is the end of; and beside it, whether a sequence ends with it, and whether it
           must come once more, for it was only seen to end one. */
        static final int CHARACTER = 1;
        static final int CONTROL = 2;
        static final int SHORT = 3;
        static final int COMMAND = 4;
        static final int KIND = 7;
        static final int ENDED = 8;
        static final int AGAIN = 16;

        private static final int ESC = 27;
        private static final int PLAIN = 0;
        private static final int ESCAPED = 1;
        private static final int GROUPING = 2;
        private static final int FIELD = 3;
        private static final int DATA = 4;
        private static final int TEXT = 5;

        private static final int AT_SIGN = 0;
        private static final int AT_WHOLE = 1;
        private static final int AT_FRACTION = 2;
        static final int UNIT = 10000;
        private static final int MOST_WHOLE = 32767;
        private static final int MOST_DATA = 4096;

        private int mode;
        int taken;
        int family;
        int group;
        int end;
        private boolean last;
        private int phase;
        private int sign;
        private int whole;
        private int fraction;
        private int digitWorth;
        int value;
        boolean signed;
        private int dataLeft;
        final byte[] data = new byte[MOST_DATA];
        int dataCount;

        void forget() {
            mode = PLAIN;
        }

        int take(int b) {
            taken = b;
            if (mode == GROUPING) {
                mode = FIELD;
                beginField();
                group = b >= 96 && b <= 126 ? b : 0;
                return group == 0 ? takeField(b) : 0;
            }
            switch (mode) {
                case PLAIN: return takePlain(b);
                case ESCAPED: return takeEscaped(b);
                case FIELD: return takeField(b);
                case DATA: return takeData(b);
                default: return takeText();
            }
        }

        private int takePlain(int b) {
            if (b == ESC) {
                mode = ESCAPED;
                return 0;
            }
            return b >= 32 ? CHARACTER : CONTROL;
        }

        private int takeEscaped(int b) {
            if (b == ESC) {
                return 0;
            }
            mode = PLAIN;
            if (b >= 33 && b <= 47) {
                family = b;
                mode = GROUPING;
            }
            return b >= 48 && b <= 126 ? SHORT : 0;
        }

        private void beginField() {
            phase = AT_SIGN;
            sign = 0;
            whole = 0;
            fraction = 0;
            digitWorth = UNIT / 10;
        }

        private int takeField(int b) {
            if (b >= '0' && b <= '9') {
                takeDigit(b - '0');
                return 0;
            }
            if ((b == '+' || b == '-') && phase == AT_SIGN) {
                phase = AT_WHOLE;
                sign = b;
                return 0;
            }
            if (b == '.' && phase != AT_FRACTION) {
                phase = AT_FRACTION;
                return 0;
            }
            if (b >= 64 && b <= 126 && b != 95) {
                return endField(b);
            }
            mode = PLAIN;
            return b == ESC ? ENDED | AGAIN : ENDED;
        }

        private void takeDigit(int digit) {
            if (phase == AT_FRACTION) {
                fraction += digit * digitWorth;
                digitWorth /= 10;
            } else {
                phase = AT_WHOLE;
                whole = Math.min(MOST_WHOLE, whole * 10 + digit);
            }
        }

        private int endField(int b) {
            last = b <= 94;
            end = last ? b : b - 32;
            signed = sign != 0;
            value = (whole * UNIT + fraction) * (sign == '-' ? -1 : 1);
            dataCount = 0;
            dataLeft = sign == '-' ? 0 : whole;
            beginField();
            boolean text = family == '&' && group == 'p' && end == 'X';
            if (dataLeft > 0 && (text || end == 'W')) {
                mode = text ? TEXT : DATA;
                return 0;
            }
            return COMMAND | finishField();
        }

        private int finishField() {
            mode = last ? PLAIN : FIELD;
            return last ? ENDED : 0;
        }

        private int takeData(int b) {
            if (dataCount < data.length) {
                data[dataCount] = (byte) b;
                dataCount++;
            }
            dataLeft--;
            return dataLeft > 0 ? 0 : COMMAND | finishField();
        }

        private int takeText() {
            dataLeft--;
            return dataLeft > 0 ? CHARACTER : CHARACTER | finishField();
        }

        /** The value, 0 for a negative one. */
        long amount() {
            return Math.max(0, value);
        }

        int number() {
            return Math.max(0, value) / UNIT;
        }

        int signedNumber() {
            return value / UNIT;
        }
    }

    /** Does what the bytes of a stream, and of the macros in it, say. */
    private static final class Interpreter {
        private static final int MOST_LEVEL = 2;
        private static final int UNIT = Parser.UNIT;

        /* What is left to do of a byte behind the eject that it may have asked for. */
        private static final int NOTHING = 0;
        private static final int CHARACTER = 1;
        private static final int RESET = 2;
        private static final int SIZE = 3;
        private static final int ORIENTATION = 4;

        private final byte[] tape;
        private final Page page;
        private final Sheet sheet;
        private final FontShelf fonts;
        private final Macros macros;
        private final Raster raster;
        private final Parser parser = new Parser();
        /* Level 0 is the stream, 1 a macro in it, 2 one in that; the bytes of a macro are copied, for
           it may go while it is done. */
        private final byte[] copies = new byte[MOST_LEVEL * Macros.MOST_BYTES];
        private int level;
        private final int[] at = new int[MOST_LEVEL + 1];
        private final int[] ends = new int[MOST_LEVEL + 1];
        private final boolean[] called = new boolean[MOST_LEVEL + 1];
        private final int[] acts = new int[(MOST_LEVEL + 1) * Macros.MOST_SAID];
        private final int[] actIds = new int[(MOST_LEVEL + 1) * Macros.MOST_SAID];
        private final int[] actCount = new int[MOST_LEVEL + 1];
        private final int[] actNext = new int[MOST_LEVEL + 1];
        boolean ejecting;
        private int then;
        private int thenNumber;
        private int thenStep;

        Interpreter(byte[] tape, Page page, Sheet sheet, FontShelf fonts, Macros macros, Raster raster) {
            this.tape = tape;
            this.page = page;
            this.sheet = sheet;
            this.fonts = fonts;
            this.macros = macros;
            this.raster = raster;
        }

        void begin(int bytes) {
            at[0] = 0;
            ends[0] = Math.min(bytes, tape.length);
        }

        /** Throws away what the streams of a job were in the midst of. */
        void forget() {
            parser.forget();
            macros.forget();
            level = 0;
            at[0] = ends[0];
            actCount[0] = 0;
            actNext[0] = 0;
        }

        boolean hasMore() {
            return level > 0 || at[0] < ends[0] || actNext[0] < actCount[0];
        }

        /** Takes one byte, and tells of what it is the end; or does one thing that an X has said. */
        int next() {
            if (level < 0 || level > MOST_LEVEL) {
                return 0;
            }
            if (actNext[level] < actCount[level]) {
                doAct();
            } else if (at[level] < ends[level]) {
                return takeByte();
            } else if (level > 0) {
                leaveMacro();
            }
            return 0;
        }

        private int takeByte() {
            byte[] source = level == 0 ? tape : copies;
            int place = at[level];
            int b = place >= 0 && place < source.length ? source[place] & 255 : 0;
            if (level == 0 && macros.reading) {
                at[level]++;
                macros.collect(b);
                return 0;
            }
            int event = parser.take(b);
            if ((event & Parser.AGAIN) == 0) {
                at[level]++;
            }
            return event;
        }

        /** Does what the byte that was taken says, but for what must wait for an eject. */
        void act(int event) {
            int kind = event & Parser.KIND;
            switch (kind == Parser.COMMAND ? parser.family << 8 | parser.group : kind) {
                case Parser.CHARACTER: doCharacter(parser.taken); break;
                case Parser.CONTROL: doControl(parser.taken); break;
                case Parser.SHORT: doShort(parser.taken); break;
                case '&' << 8 | 'l': doLayout(parser.end, parser.number(), parser.amount()); break;
                case '&' << 8 | 'k': doText(parser.end, parser.number(), parser.amount()); break;
                case '&' << 8 | 'a': doPlace(parser.end, parser.number()); break;
                case '&' << 8 | 's': doWrap(parser.end, parser.number()); break;
                case '&' << 8 | 'f': doStackAndMacros(parser.end, parser.number()); break;
                case '*' << 8 | 'p': doDotPlace(parser.end); break;
                case '*' << 8 | 'c': doFontsAndRules(parser.end, parser.number(), parser.amount()); break;
                case '*' << 8 | 'v': doInk(parser.end, parser.number()); break;
                case '*' << 8 | 't': doResolution(parser.end, parser.number()); break;
                case '*' << 8 | 'r': doRaster(parser.end, parser.number()); break;
                case '*' << 8 | 'b': doRow(parser.end, parser.number()); break;
                case '(' << 8 | 's': doWish(0, parser.end, parser.number(), parser.amount()); break;
                case ')' << 8 | 's': doWish(1, parser.end, parser.number(), parser.amount()); break;
                case '(' << 8: doSet(0, parser.end, parser.number()); break;
                case ')' << 8: doSet(1, parser.end, parser.number()); break;
                default: break;
            }
            if ((event & Parser.ENDED) != 0) {
                takeSaid();
            }
        }

        /* A sequence may begin in a macro and end behind it: what it said is done where it ends. */
        private void takeSaid() {
            int first = level * Macros.MOST_SAID;
            System.arraycopy(macros.saidActs, 0, acts, first, Macros.MOST_SAID);
            System.arraycopy(macros.saidIds, 0, actIds, first, Macros.MOST_SAID);
            actCount[level] = macros.said;
            actNext[level] = 0;
            macros.said = 0;
        }

        private void doAct() {
            int i = level * Macros.MOST_SAID + actNext[level];
            actNext[level]++;
            if (i < 0 || i >= acts.length) {
                return;
            }
            switch (acts[i]) {
                case 0:
                    if (level == 0) {
                        macros.beginReading(actIds[i]);
                    }
                    break;
                case 2: enterMacro(actIds[i], false); break;
                case 3: enterMacro(actIds[i], true); break;
                default: macros.manage(acts[i], actIds[i]); break;
            }
        }

        private void enterMacro(int id, boolean isCall) {
            int first = level * Macros.MOST_BYTES;
            int length = level < MOST_LEVEL ? macros.fetch(id, copies, first) : NONE;
            if (length < 0) {
                return;
            }
            level++;
            at[level] = first;
            ends[level] = first + length;
            actCount[level] = 0;
            actNext[level] = 0;
            called[level] = isCall;
            if (isCall) {
                page.keep(level);
            }
        }

        private void leaveMacro() {
            if (called[level]) {
                page.giveBack(level);
            }
            level--;
        }

        private void waitToDo(int what, int number) {
            then = what;
            thenNumber = number;
        }

        /** Goes on with a byte that has waited: if the job has failed, but for its marks. */
        void finish(boolean failed) {
            int what = then;
            then = NOTHING;
            if (ejecting) {
                ejecting = false;
                page.goHome();
            }
            switch (what) {
                case CHARACTER:
                    if (failed) {
                        page.setX(page.x + thenStep);
                    } else {
                        placeCharacter(thenNumber, thenStep);
                    }
                    break;
                case RESET: page.reset(); break;
                case SIZE: page.setSize(thenNumber); break;
                case ORIENTATION: page.setOrientation(thenNumber); break;
                default: break;
            }
        }

        private void doCharacter(int b) {
            thenStep = fonts.stepOf(page.font, b, page.stepAcross);
            boolean fits = page.fits(thenStep);
            if (!fits && page.wrap) {
                page.carriageReturn();
                doLineFeed(page.stepDown);
            }
            if (fits || page.wrap) {
                waitToDo(CHARACTER, b);
            }
        }

        private void placeCharacter(int b, int step) {
            if (b != 32) {
                sheet.due = true;
                int glyph = fonts.glyphFor(page.font, b);
                if (glyph >= 0) {
                    sheet.layGlyph(fonts, glyph);
                }
            }
            page.setX(page.x + step);
        }

        private void doControl(int b) {
            if ((b == 10 || b == 12) && page.lineEnd >= 2 || b == 13) {
                page.carriageReturn();
            }
            switch (b) {
                case 8: page.backspace(); break;
                case 9: page.tab(); break;
                case 10: doLineFeed(page.stepDown); break;
                case 12: ejecting = true; break;
                case 13:
                    if ((page.lineEnd & 1) == 1) {
                        doLineFeed(page.stepDown);
                    }
                    break;
                case 14: page.font = 1; break;
                case 15: page.font = 0; break;
                default: break;
            }
        }

        private void doLineFeed(int step) {
            ejecting = !page.lineFeed(step);
        }

        private void doShort(int b) {
            switch (b) {
                case 'E':
                    ejecting = sheet.due;
                    waitToDo(RESET, 0);
                    break;
                case '9': page.clearMargins(); break;
                case '=': doLineFeed(page.stepDown / 2); break;
                default: break;
            }
        }

        private void doLayout(int end, int n, long v) {
            switch (end) {
                case 'A':
                    if (Page.isSize(n)) {
                        ejecting = sheet.due;
                        waitToDo(SIZE, n);
                    }
                    break;
                case 'O':
                    if (n <= 3) {
                        ejecting = sheet.due;
                        waitToDo(ORIENTATION, n);
                    }
                    break;
                case 'X': page.setCopies(n); break;
                case 'C': page.setLineStep(150 * v / UNIT); break;
                case 'D': page.setLinesAnInch(n); break;
                case 'E': page.setTop(n); break;
                case 'F': page.setLength(n); break;
                case 'L': page.skip = n == 1 || n != 0 && page.skip; break;
                default: break;
            }
        }

        private void doText(int end, int n, long v) {
            if (end == 'H') {
                page.stepAcross = (int) (60 * v / UNIT);
            } else if (end == 'G' && n <= 3) {
                page.lineEnd = n;
            }
        }

        private void doPlace(int end, int n) {
            long v = parser.value;
            boolean signed = parser.signed;
            switch (end) {
                case 'L': page.setLeft(n); break;
                case 'M': page.setRight(n); break;
                case 'C': page.moveAcross(v * page.stepAcross / UNIT, signed); break;
                case 'H': page.moveAcross(10 * v / UNIT, signed); break;
                case 'R': page.moveLines(v * page.stepDown / UNIT, signed); break;
                case 'V': page.moveDown(10 * v / UNIT, signed); break;
                default: break;
            }
        }

        private void doDotPlace(int end) {
            long distance = 24L * parser.value / UNIT;
            if (end == 'X') {
                page.moveAcross(distance, parser.signed);
            } else if (end == 'Y') {
                page.moveDown(distance, parser.signed);
            }
        }

        private void doWrap(int end, int n) {
            if (end == 'C') {
                page.wrap = n == 0 || n != 1 && page.wrap;
            }
        }

        private void doStackAndMacros(int end, int n) {
            if (end == 'S' && n == 0) {
                page.pushPlace();
            } else if (end == 'S' && n == 1) {
                page.popPlace();
            } else if (end == 'Y') {
                macros.setId(n);
            } else if (end == 'X') {
                macros.say(n);
            }
        }

        private void doFontsAndRules(int end, int n, long v) {
            switch (end) {
                case 'D': fonts.setId(n); break;
                case 'E': fonts.setCode(n); break;
                case 'F':
                    if (n == 1) {
                        fonts.dropPassing();
                    } else {
                        fonts.manage(n);
                    }
                    break;
                case 'A': sheet.setRuleWidth(24 * n); break;
                case 'H': sheet.setRuleWidth(10 * v / UNIT); break;
                case 'B': sheet.setRuleHeight(24 * n); break;
                case 'V': sheet.setRuleHeight(10 * v / UNIT); break;
                case 'G': sheet.setPattern(n); break;
                case 'P': sheet.layRule(n); break;
                default: break;
            }
        }

        private void doInk(int end, int n) {
            switch (end) {
                case 'T': sheet.setInk(n); break;
                case 'N': sheet.setSourceOpaque(n); break;
                case 'O': sheet.setInkOpaque(n); break;
                default: break;
            }
        }

        private void doResolution(int end, int n) {
            if (end == 'R') {
                raster.setResolution(n);
            }
        }

        private void doRaster(int end, int n) {
            switch (end) {
                case 'S': raster.setNextWidth(n); break;
                case 'T': raster.setNextHeight(n); break;
                case 'A':
                    if (n <= 1) {
                        raster.openAt(n == 1 ? page.x : 0, page.y);
                    }
                    break;
                case 'B':
                case 'C':
                    if (raster.open) {
                        int line = page.dotDown(raster.y) + raster.close();
                        page.setY((long) line * (Page.INCH / page.dpi));
                    }
                    break;
                default: break;
            }
        }

        private void doRow(int end, int n) {
            if (end == 'M') {
                raster.setMethod(n);
            } else if (end == 'Y') {
                raster.skipRows(n);
            } else if (end == 'W') {
                raster.openAt(0, page.y);
                int blackDots = raster.unpack(parser.data, parser.dataCount);
                if (blackDots > 0) {
                    sheet.layRow(raster, blackDots);
                }
                raster.endRow();
            }
        }

        private void doWish(int which, int end, int n, long v) {
            switch (end) {
                case 'P': fonts.wish(which, FontShelf.SPACING, n); break;
                case 'H': fonts.wish(which, FontShelf.PITCH, v / 100); break;
                case 'V': fonts.wish(which, FontShelf.HEIGHT, v / 100); break;
                case 'S': fonts.wish(which, FontShelf.STYLE, n); break;
                case 'B': fonts.wish(which, FontShelf.WEIGHT, parser.signedNumber()); break;
                case 'T': fonts.wish(which, FontShelf.FACE, n); break;
                case 'W':
                    if (which == 0) {
                        fonts.loadGlyph(parser.data, parser.dataCount);
                    } else {
                        fonts.loadFont(parser.data, parser.dataCount);
                    }
                    break;
                default: break;
            }
        }

        private void doSet(int which, int end, int n) {
            if (end == 'X') {
                fonts.pin(which, n);
            } else if (end >= 'A' && end <= 'V') {
                fonts.wish(which, FontShelf.SET, 32L * n + end - 64);
            }
        }
    }
}
