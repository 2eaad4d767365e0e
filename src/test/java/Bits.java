/** Codes of given widths, joined by hand into bytes, the lowest bit first. */
final class Bits {
    private final StringBuilder bits = new StringBuilder();

    Bits code(int code, int width) {
        for (int i = 0; i < width; i++) {
            bits.append((code >> i) & 1);
        }
        return this;
    }

    Bits then(Bits more) {
        bits.append(more.bits);
        return this;
    }

    int[] bytes() {
        int[] bytes = new int[(bits.length() + 7) / 8];
        for (int i = 0; i < bits.length(); i++) {
            bytes[i / 8] += (bits.charAt(i) - '0') << (i % 8);
        }
        return bytes;
    }

    void feedTo(PaletteFrames x) {
        for (int b : bytes()) {
            x.feed(b);
        }
    }

    /** The code that stands in what was coded last, from a bit on. */
    static int codeOf(PaletteFrames x, int from, int width) {
        int bytes = 0;
        for (int i = from / 8; i * 8 < from + width; i++) {
            bytes |= x.byteAt(i) << 8 * (i - from / 8);
        }
        return bytes >> from % 8 & (1 << width) - 1;
    }
}
