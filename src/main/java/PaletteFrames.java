import java.util.Arrays;

/**
 * Rows of symbols coded by a growing table of strings and read back, and frames of such symbols
 * on a screen. Every row is made once, in the constructor, so that calls make no objects.
 */
public final class PaletteFrames {
    public static final int NONE = -1;

    private static final int MOST_SYMBOLS = 12000;
    private static final int MOST_WAITING = 24000;
    private static final int MOST_PUT = 1000;
    private static final int MOST_FRAMES = 12;
    private static final int MOST_DELAY = 1000;
    private static final int MOST_COLOUR = 16777215;
    private static final int SCREEN_SIDE = 24;

    private static final int MOST_BITS = 12;
    private static final int LAST_ENTRY = 4095;

    private static final int RULE_WHEN_FULL = 0;
    private static final int RULE_NEVER = 1;
    private static final int RULE_WHEN_POOR = 2;
    private static final int LOOK_CODES = 64;
    private static final int LOOK_SYMBOLS = 256;

    // A code stands for one symbol at least, so a full row has 12000 codes of entries; the rest is
    // room for END and the few CLEARs, all of 12 bits.
    private static final int MOST_CODED = (MOST_SYMBOLS + 40) * MOST_BITS / 8;
    // The narrowest code has 3 bits.
    private static final int MOST_READ_CODES = MOST_WAITING * 8 / 3;

    private static final int END_TO_NOTHING = 2;
    private static final int END_TO_BEFORE = 3;
    private static final int PASSES = 4;

    private final int symbolBits;
    private final Numbers row;
    private final Numbers waiting;
    private final Coder coder;
    private final Reader reader;
    private final Screen screen;
    private int rule;

    public PaletteFrames(int least) {
        symbolBits = Math.max(2, Math.min(8, least));
        row = new Numbers(MOST_SYMBOLS);
        waiting = new Numbers(MOST_WAITING);
        coder = new Coder(symbolBits);
        reader = new Reader(symbolBits);
        screen = new Screen(1 << symbolBits);
        rule = RULE_WHEN_FULL;
    }

    public int put(int v, int step, int n) throws IllegalArgumentException, UnsupportedOperationException {
        if (n < 1 || n > MOST_PUT) {
            throw new IllegalArgumentException("n is not 1 .. 1000");
        }
        if (n > row.room()) {
            throw new UnsupportedOperationException("more than 12000 symbols");
        }
        // Wrap-around of ints leaves the low bits right, so the mask is the rest also for large steps.
        int mask = (1 << symbolBits) - 1;
        int value = v;
        for (int i = 0; i < n; i++) {
            row.add(value & mask);
            value += step;
        }
        return row.size;
    }

    public int rule(int rule) throws IllegalArgumentException {
        if (rule < RULE_WHEN_FULL || rule > RULE_WHEN_POOR) {
            throw new IllegalArgumentException("the rule is not 0 .. 2");
        }
        int before = this.rule;
        this.rule = rule;
        return before;
    }

    public int encode() {
        coder.codeRow(row, rule);
        return coder.bytes.size;
    }

    public int byteAt(int i) throws IndexOutOfBoundsException {
        if (!coder.bytes.has(i)) {
            throw new IndexOutOfBoundsException("no such byte");
        }
        return coder.bytes.get(i);
    }

    public int coded(int what) {
        switch (what) {
            case 0:
                return coder.codes;
            case 1:
                return coder.clears;
            case 2:
                return coder.lastBits;
            case 3:
                return coder.strings.count();
            default:
                return NONE;
        }
    }

    public int feed(int b) throws IllegalArgumentException, UnsupportedOperationException {
        if (b < 0 || b > 255) {
            throw new IllegalArgumentException("the byte is not 0 .. 255");
        }
        if (waiting.room() < 1) {
            throw new UnsupportedOperationException("24000 bytes wait");
        }
        waiting.add(b);
        return waiting.size;
    }

    public int pass(int i, int n)
            throws IndexOutOfBoundsException, IllegalArgumentException, UnsupportedOperationException {
        if (!coder.bytes.has(i)) {
            throw new IndexOutOfBoundsException("no such byte");
        }
        if (n < 0) {
            throw new IllegalArgumentException("n is below 0");
        }
        int fed = Math.min(n, coder.bytes.size - i);
        if (fed > waiting.room()) {
            throw new UnsupportedOperationException("more than 24000 bytes would wait");
        }
        for (int k = 0; k < fed; k++) {
            waiting.add(coder.bytes.get(i + k));
        }
        return fed;
    }

    public int decode() {
        int odd = reader.readAll(waiting);
        waiting.empty();
        return odd == NONE ? reader.symbols.size : -1 - odd;
    }

    public int at(int i) throws IndexOutOfBoundsException {
        if (!reader.symbols.has(i)) {
            throw new IndexOutOfBoundsException("no such symbol");
        }
        return reader.symbols.get(i);
    }

    public int take() {
        row.empty();
        for (int i = 0; i < reader.symbols.size; i++) {
            row.add(reader.symbols.get(i));
        }
        return row.size;
    }

    public int frame(int x, int y, int width, int height, boolean interlaced, int end, int delay)
            throws IllegalArgumentException, IllegalStateException, UnsupportedOperationException {
        if (!fits(x, width) || !fits(y, height)) {
            throw new IllegalArgumentException("the frame is not on the screen");
        }
        if (end < 0 || end > END_TO_BEFORE) {
            throw new IllegalArgumentException("the end is not 0 .. 3");
        }
        if (delay < 0 || delay > MOST_DELAY) {
            throw new IllegalArgumentException("the delay is not 0 .. 1000");
        }
        if (width * height > row.size) {
            throw new IllegalStateException("the row has too few symbols");
        }
        if (screen.count >= MOST_FRAMES) {
            throw new UnsupportedOperationException("there are 12 frames");
        }
        Frame made = screen.addFrame();
        made.lay(x, y, width, height);
        made.time(end, delay);
        made.fill(row, interlaced);
        row.dropFirst(width * height);
        return screen.count - 1;
    }

    public int colour(int frame, int symbol, int rgb) throws IndexOutOfBoundsException, IllegalArgumentException {
        if (frame != NONE && !screen.has(frame)) {
            throw new IndexOutOfBoundsException("no such frame");
        }
        if (!isSymbol(symbol)) {
            throw new IndexOutOfBoundsException("no such symbol");
        }
        if (rgb < NONE || rgb > MOST_COLOUR) {
            throw new IllegalArgumentException("no such colour");
        }
        Palette palette = frame == NONE ? screen.palette : screen.frames[frame].palette;
        return palette.change(symbol, rgb);
    }

    public int through(int frame, int symbol) throws IndexOutOfBoundsException {
        if (!screen.has(frame)) {
            throw new IndexOutOfBoundsException("no such frame");
        }
        if (symbol != NONE && !isSymbol(symbol)) {
            throw new IndexOutOfBoundsException("no such symbol");
        }
        int before = screen.frames[frame].clearThrough;
        screen.frames[frame].clearThrough = symbol;
        return before;
    }

    public int shown(int frame, int x, int y) throws IndexOutOfBoundsException {
        if (!screen.has(frame)) {
            throw new IndexOutOfBoundsException("no such frame");
        }
        if (x < 0 || x >= SCREEN_SIDE || y < 0 || y >= SCREEN_SIDE) {
            throw new IndexOutOfBoundsException("no such place on the screen");
        }
        return screen.colourBehind(frame, x, y);
    }

    public int symbol(int frame, int x, int y) throws IndexOutOfBoundsException {
        if (!screen.has(frame)) {
            throw new IndexOutOfBoundsException("no such frame");
        }
        Frame asked = screen.frames[frame];
        if (x < 0 || x >= asked.width || y < 0 || y >= asked.height) {
            throw new IndexOutOfBoundsException("no such place of the frame");
        }
        return asked.symbolIn(x, y);
    }

    public int when(int time, int times) throws IllegalArgumentException {
        if (time < 0 || times < 0) {
            throw new IllegalArgumentException("the time or the times are below 0");
        }
        return screen.frameAt(time, times);
    }

    public int passOf(int row) throws IllegalArgumentException {
        if (row < 0) {
            throw new IllegalArgumentException("the row is below 0");
        }
        return Frame.passNumber(row);
    }

    public int told(int what) {
        switch (what) {
            case 0:
                return symbolBits;
            case 1:
                return row.size;
            case 2:
                return waiting.size;
            case 3:
                return reader.symbols.size;
            case 4:
                return screen.count;
            default:
                return NONE;
        }
    }

    public void clear() {
        rule = RULE_WHEN_FULL;
        row.empty();
        waiting.empty();
        coder.forget();
        reader.symbols.empty();
        screen.forget();
    }

    private boolean isSymbol(int symbol) {
        return symbol >= 0 && symbol < 1 << symbolBits;
    }

    // The place is held against what is left beside the side, as a sum could wrap around.
    private static boolean fits(int place, int side) {
        return side >= 1 && side <= SCREEN_SIDE && place >= 0 && place <= SCREEN_SIDE - side;
    }

    /** A row of numbers with a bound, whose room is made once. */
    private static final class Numbers {
        private final int[] items;
        int size;

        Numbers(int most) {
            items = new int[most];
        }

        boolean has(int i) {
            return i >= 0 && i < size;
        }

        int get(int i) {
            return has(i) ? items[i] : NONE;
        }

        int room() {
            return items.length - size;
        }

        void add(int number) {
            if (size < items.length) {
                items[size] = number;
                size++;
            }
        }

        void dropFirst(int n) {
            if (n >= 0 && n <= size) {
                System.arraycopy(items, n, items, 0, size - n);
                size -= n;
            }
        }

        void empty() {
            size = 0;
        }
    }

    /** The width of the next code; it grows with the codes of entries alone, so both ways share it. */
    private static final class Width {
        private final int symbolBits;
        private final int end;
        int bits;
        private int codes;

        Width(int symbolBits) {
            this.symbolBits = symbolBits;
            end = (1 << symbolBits) + 1;
            bits = symbolBits + 1;
        }

        void restart() {
            bits = symbolBits + 1;
            codes = 0;
        }

        void behindEntry() {
            codes++;
            if (bits < MOST_BITS && end + codes == 1 << bits) {
                bits++;
            }
        }
    }

    /**
     * The table of the coder. An entry is found by a key of the entry that it makes longer and the
     * symbol behind that, in slots that are twice as many as the entries.
     */
    private static final class Strings {
        private static final int SLOTS = 8192;
        private static final int SLOT_SHIFT = 32 - 13;
        private static final int SPREAD = 0x9E3779B1;
        private static final int FREE = 0;

        private final int end;
        private final int[] slots = new int[SLOTS];
        private final int[] keys = new int[LAST_ENTRY + 1];
        private final int[] slotOf = new int[LAST_ENTRY + 1];
        private int last;

        Strings(int end) {
            this.end = end;
            last = end;
        }

        int count() {
            return last - end;
        }

        boolean isFull() {
            return last >= LAST_ENTRY;
        }

        int find(int entry, int symbol) {
            int found = slots[slotFor(keyOf(entry, symbol))];
            return found == FREE ? NONE : found;
        }

        void add(int entry, int symbol) {
            if (isFull()) {
                return;
            }
            int key = keyOf(entry, symbol);
            int slot = slotFor(key);
            last++;
            slots[slot] = last;
            keys[last] = key;
            slotOf[last] = slot;
        }

        // Only the slots in use are freed: rows are often much shorter than the slots.
        void empty() {
            for (int entry = end + 1; entry <= last; entry++) {
                slots[slotOf[entry]] = FREE;
            }
            last = end;
        }

        private static int keyOf(int entry, int symbol) {
            return (entry << 8) | symbol;
        }

        // At least half of the slots are free, so the search always stops at the key or a free one.
        private int slotFor(int key) {
            int slot = (key * SPREAD) >>> SLOT_SHIFT;
            for (int tries = 0; tries < SLOTS; tries++) {
                int entry = slots[slot];
                if (entry == FREE || keys[entry] == key) {
                    return slot;
                }
                slot = (slot + 1) & (SLOTS - 1);
            }
            return slot;
        }
    }

    /** Codes a row into bytes, and keeps what was coded last. */
    private static final class Coder {
        private final int clearCode;
        private final int endCode;
        private final Width width;
        final Strings strings;
        final Numbers bytes = new Numbers(MOST_CODED);
        int codes;
        int clears;
        int lastBits;
        private int held;
        private int heldBits;
        private int lookCodes;
        private int lookSymbols;

        Coder(int symbolBits) {
            clearCode = 1 << symbolBits;
            endCode = clearCode + 1;
            width = new Width(symbolBits);
            strings = new Strings(endCode);
        }

        void forget() {
            bytes.empty();
            strings.empty();
            width.restart();
            codes = 0;
            clears = 0;
            lastBits = 0;
            held = 0;
            heldBits = 0;
        }

        void codeRow(Numbers row, int rule) {
            forget();
            writeClear();
            int entry = row.get(0);
            int begin = 0;
            for (int i = 1; i < row.size; i++) {
                int symbol = row.get(i);
                int longer = strings.find(entry, symbol);
                if (longer != NONE) {
                    entry = longer;
                } else {
                    writeEntry(entry, i - begin);
                    strings.add(entry, symbol);
                    if (isClearDue(rule)) {
                        writeClear();
                    }
                    entry = symbol;
                    begin = i;
                }
            }
            if (row.size > 0) {
                writeEntry(entry, row.size - begin);
            }
            write(endCode);
            writeRest();
        }

        private void writeClear() {
            write(clearCode);
            clears++;
            strings.empty();
            width.restart();
            startLook();
        }

        // The code that makes entry 4095 is written before there is one, so it does not count.
        private void writeEntry(int entry, int symbols) {
            write(entry);
            width.behindEntry();
            if (strings.isFull()) {
                lookCodes++;
                lookSymbols += symbols;
            }
        }

        private boolean isClearDue(int rule) {
            if (rule == RULE_NEVER || !strings.isFull()) {
                return false;
            }
            if (rule == RULE_WHEN_FULL) {
                return true;
            }
            if (lookCodes < LOOK_CODES) {
                return false;
            }
            boolean poor = lookSymbols < LOOK_SYMBOLS;
            startLook();
            return poor;
        }

        private void startLook() {
            lookCodes = 0;
            lookSymbols = 0;
        }

        private void write(int code) {
            codes++;
            lastBits = width.bits;
            held |= code << heldBits;
            heldBits += width.bits;
            for (int whole = heldBits / 8; whole > 0; whole--) {
                bytes.add(held & 255);
                held >>>= 8;
                heldBits -= 8;
            }
        }

        private void writeRest() {
            if (heldBits > 0) {
                bytes.add(held & 255);
            }
        }
    }

    /**
     * Reads bytes back. A new entry's string always stands in what was read, one symbol longer than
     * the string of the code before, so a place and a length are all that an entry needs. The entry
     * that would be there now needs no care of its own: its last symbol is the first that its own
     * copy writes.
     */
    private static final class Reader {
        private final int clearCode;
        private final int endCode;
        private final Width width;
        final Numbers symbols = new Numbers(MOST_SYMBOLS);
        private final int[] begins = new int[LAST_ENTRY + 1];
        private final int[] lengths = new int[LAST_ENTRY + 1];
        private int last;

        Reader(int symbolBits) {
            clearCode = 1 << symbolBits;
            endCode = clearCode + 1;
            width = new Width(symbolBits);
            last = endCode;
        }

        /** The odd code that ended it, or NONE. */
        int readAll(Numbers bytes) {
            symbols.empty();
            restart();
            int bits = bytes.size * 8;
            int from = 0;
            for (int read = 0; read < MOST_READ_CODES; read++) {
                if (from + width.bits > bits) {
                    return NONE;
                }
                int code = codeFrom(bytes, from);
                from += width.bits;
                if (code == endCode) {
                    return NONE;
                }
                if (code == clearCode) {
                    restart();
                } else if (code > last) {
                    return code;
                } else if (!copyString(code)) {
                    return NONE;
                }
            }
            return NONE;
        }

        private void restart() {
            last = endCode;
            width.restart();
        }

        // A code of up to 12 bits lies in three bytes at most; behind the last one come no bits of it.
        private int codeFrom(Numbers bytes, int from) {
            int first = from >> 3;
            int three = bytes.get(first);
            if (bytes.has(first + 1)) {
                three |= bytes.get(first + 1) << 8;
            }
            if (bytes.has(first + 2)) {
                three |= bytes.get(first + 2) << 16;
            }
            return (three >> (from & 7)) & ((1 << width.bits) - 1);
        }

        /** False, with nothing read, if there would be too many symbols. */
        private boolean copyString(int code) {
            boolean single = code < clearCode;
            int length = single ? 1 : lengths[code];
            if (length > symbols.room()) {
                return false;
            }
            int begin = symbols.size;
            if (single) {
                symbols.add(code);
            } else {
                for (int i = 0; i < length; i++) {
                    symbols.add(symbols.get(begins[code] + i));
                }
            }
            width.behindEntry();
            addEntry(begin, length + 1);
            return true;
        }

        private void addEntry(int begin, int length) {
            if (last < LAST_ENTRY) {
                last++;
                begins[last] = begin;
                lengths[last] = length;
            }
        }
    }

    /** A colour, or NONE, for each symbol. */
    private static final class Palette {
        private final int[] colours;

        Palette(int symbolCount) {
            colours = new int[symbolCount];
            Arrays.fill(colours, NONE);
        }

        int get(int symbol) {
            return symbol >= 0 && symbol < colours.length ? colours[symbol] : NONE;
        }

        int change(int symbol, int rgb) {
            int before = get(symbol);
            if (symbol >= 0 && symbol < colours.length) {
                colours[symbol] = rgb;
            }
            return before;
        }

        void forget() {
            Arrays.fill(colours, NONE);
        }
    }

    private static final class Frame {
        private final int[] symbols = new int[SCREEN_SIDE * SCREEN_SIDE];
        final Palette palette;
        private int left;
        private int top;
        int width;
        int height;
        int end;
        int delay;
        int clearThrough;

        Frame(int symbolCount) {
            palette = new Palette(symbolCount);
            clearThrough = NONE;
        }

        static int passNumber(int row) {
            if ((row & 1) != 0) {
                return 3;
            }
            if ((row & 2) != 0) {
                return 2;
            }
            return (row & 4) != 0 ? 1 : 0;
        }

        // A frame's object may have served before the latest clear.
        void forget() {
            palette.forget();
            clearThrough = NONE;
        }

        void lay(int x, int y, int width, int height) {
            left = x;
            top = y;
            this.width = width;
            this.height = height;
        }

        void time(int end, int delay) {
            this.end = end;
            this.delay = delay;
        }

        void fill(Numbers row, boolean interlaced) {
            int from = 0;
            for (int pass = 0; pass < PASSES; pass++) {
                for (int y = 0; y < height; y++) {
                    int due = interlaced ? passNumber(y) : 0;
                    if (due == pass) {
                        fillLine(row, from, y);
                        from += width;
                    }
                }
            }
        }

        private void fillLine(Numbers row, int from, int y) {
            for (int x = 0; x < width; x++) {
                int place = y * width + x;
                if (place >= 0 && place < symbols.length) {
                    symbols[place] = row.get(from + x);
                }
            }
        }

        int symbolIn(int x, int y) {
            int place = y * width + x;
            return place >= 0 && place < symbols.length ? symbols[place] : NONE;
        }

        boolean covers(int screenX, int screenY) {
            return screenX >= left && screenX - left < width && screenY >= top && screenY - top < height;
        }

        int symbolOn(int screenX, int screenY) {
            return symbolIn(screenX - left, screenY - top);
        }
    }

    private static final class Screen {
        final Frame[] frames = new Frame[MOST_FRAMES];
        final Palette palette;
        int count;

        Screen(int symbolCount) {
            palette = new Palette(symbolCount);
            for (int i = 0; i < MOST_FRAMES; i++) {
                frames[i] = new Frame(symbolCount);
            }
        }

        boolean has(int frame) {
            return frame >= 0 && frame < count;
        }

        Frame addFrame() {
            int number = Math.min(count, MOST_FRAMES - 1);
            frames[number].forget();
            count = number + 1;
            return frames[number];
        }

        void forget() {
            count = 0;
            palette.forget();
        }

        int colourBehind(int frame, int x, int y) {
            int source = sourceBehind(frame, x, y);
            if (source == NONE) {
                return NONE;
            }
            int symbol = frames[source].symbolOn(x, y);
            int own = frames[source].palette.get(symbol);
            return own != NONE ? own : palette.get(symbol);
        }

        // A frame has one symbol for a place, so the frame whose symbol is seen tells it all.
        private int sourceBehind(int frame, int x, int y) {
            int source = NONE;
            for (int i = 0; i <= frame && i < count; i++) {
                Frame now = frames[i];
                if (now.covers(x, y)) {
                    int before = source;
                    if (now.symbolOn(x, y) != now.clearThrough) {
                        source = i;
                    }
                    if (i < frame) {
                        source = sourceAfter(now.end, before, source);
                    }
                }
            }
            return source;
        }

        private static int sourceAfter(int end, int before, int source) {
            if (end == END_TO_NOTHING) {
                return NONE;
            }
            return end == END_TO_BEFORE ? before : source;
        }

        // The number of the last frame is NONE if there are no frames.
        int frameAt(int time, int times) {
            int last = count - 1;
            int round = 0;
            for (int i = 0; i < count; i++) {
                round += frames[i].delay;
            }
            boolean over = times > 0 && time >= (long) round * times;
            if (round <= 0 || over) {
                return last;
            }
            int left = time % round;
            for (int i = 0; i < count; i++) {
                if (left < frames[i].delay) {
                    return i;
                }
                left -= frames[i].delay;
            }
            return last;
        }
    }
}
