/** Rows of many codes, and where each code stands in what they are coded to, reckoned anew from the document. */
final class Rows {
    private static final int MOST_SYMBOLS = 12000;

    private Rows() {
    }

    /** How many entries above END there may be. */
    static int mostEntries(int least) {
        return 4095 - (1 << least) - 1;
    }

    /** The width of the code behind the k-th code of an entry. */
    static int widthBehind(int least, int k) {
        int width = least + 1;
        while (width < 12 && (1 << least) + 1 + k >= 1 << width) {
            width++;
        }
        return width;
    }

    /** The bits of CLEAR and of k codes of entries behind it. */
    static int bitsOf(int least, int k) {
        int bits = least + 1;
        for (int i = 0; i < k; i++) {
            bits += widthBehind(least, i);
        }
        return bits;
    }

    /** With rule 1; from L = 5 on it fills the table, and below that it has codes of 12 bits. Some 170 calls are left. */
    static PaletteFrames longRow(int least) {
        return least < 5 ? repeatedRow(least) : mixedRow(least, 300, 80);
    }

    /** So many puts, of up to so many symbols each. */
    private static PaletteFrames mixedRow(int least, int puts, int most) {
        PaletteFrames x = new PaletteFrames(least);
        x.rule(1);
        long seed = 16;
        int left = MOST_SYMBOLS;
        for (int i = 0; i < puts && left > 0; i++) {
            seed = seed * 6364136223846793005L + 1442695040888963407L;
            int number = (int) (seed >>> 33);
            int n = Math.min(left, 1 + (number >> 16 & 0x7FFF) % most);
            x.put(number & 255, number >> 8 & 255, n);
            left -= n;
        }
        return x;
    }

    /**
     * One row of few symbols again and again: few puts make no row of so many codes. Each time it is cut behind
     * a code where a CLEAR ends with a byte, so that what was coded can be passed once more behind that.
     */
    private static PaletteFrames repeatedRow(int least) {
        PaletteFrames x = mixedRow(least, 260, 5);
        int symbols = x.told(1);
        x.encode();
        int k = x.coded(0) - 2;
        while ((bitsOf(least, k) + widthBehind(least, k)) % 8 != 0) {
            k--;
        }
        for (int many = 0; many <= MOST_SYMBOLS / symbols; many++) {
            passCodes(x, k, new Bits().code(1 << least, widthBehind(least, k)));
        }
        x.decode();
        x.take();
        return x;
    }

    /** Of what was coded last, CLEAR and k codes of entries are fed, and other codes behind them. */
    static void passCodes(PaletteFrames x, int k, Bits more) {
        int bits = bitsOf(x.told(0), k);
        int whole = bits / 8;
        int rest = bits % 8;
        if (whole > 0) {
            x.pass(0, whole);
        }
        new Bits().code(rest == 0 ? 0 : x.byteAt(whole), rest).then(more).feedTo(x);
    }

    /** An object that has read k codes of entries of its long row. */
    static PaletteFrames readCodes(int least, int k) {
        PaletteFrames x = longRow(least);
        x.encode();
        passCodes(x, k, new Bits().code((1 << least) + 1, widthBehind(least, k)));
        x.decode();
        return x;
    }

    /** A row that is coded to k codes of entries, with rule 1. */
    static PaletteFrames rowOfCodes(int least, int k) {
        PaletteFrames x = readCodes(least, k);
        x.take();
        return x;
    }

    /** A row whose last symbol makes entry 4095, with the string of the code before it. */
    static PaletteFrames fillingRow(int least) {
        int k = mostEntries(least);
        PaletteFrames x = rowOfCodes(least, k);
        x.put(readCodes(least, k + 1).at(x.told(1)), 0, 1);
        return x;
    }

    /**
     * A row of L = 8 of 3838 codes, the last of which makes entry 4095 as soon as an odd symbol comes behind
     * it. 5555 and 9999 are in the table; no other string that begins with an odd symbol and has
     * an odd one behind it is.
     */
    static PaletteFrames filledExactly(int rule) {
        for (int n = 1; n <= 500; n++) {
            PaletteFrames x = new PaletteFrames(8);
            x.put(5, 0, 10);
            x.put(0, 0, 1);
            x.put(9, 0, 10);
            for (int i = 0; i < 29; i++) {
                x.put(0, 4 * i + 2, 128);
            }
            x.put(0, 4 * 29 + 2, n);
            x.rule(1);
            x.encode();
            if (x.coded(0) == 1 + 3838 + 1) {
                x.rule(rule);
                return x;
            }
        }
        throw new AssertionError("no row fills the table exactly");
    }
}
