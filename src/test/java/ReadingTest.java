/** Promises 7 to 11: bytes that wait, and what is read of them. */
public final class ReadingTest {
    private static final Check CHECK = new Check("ReadingTest");

    public static void main(String[] args) {
        feedEdges();
        passEdges();
        passRefusesTooMany();
        readByHand();
        readWithoutClear();
        readEndsWithoutAWholeCode();
        readTheEntryThatWouldBeThere();
        readOddCodes();
        readClearInside();
        readWidthsWhereNoneWasWritten();
        readAFullTable();
        readUpToTwelveThousand();
        readWhatWasCoded();
        whatWasReadStays();
        takeMakesTheRow();
        CHECK.finish();
    }

    private static void feedEdges() {
        PaletteFrames x = new PaletteFrames(2);
        CHECK.badArgument("feed(-1)", () -> x.feed(-1));
        CHECK.badArgument("feed(256)", () -> x.feed(256));
        CHECK.badArgument("feed(least)", () -> x.feed(Integer.MIN_VALUE));
        CHECK.badArgument("feed(most)", () -> x.feed(Integer.MAX_VALUE));
        CHECK.due("told(2)", x.told(2), 0);
        CHECK.due("feed(0)", x.feed(0), 1);
        CHECK.due("feed(255)", x.feed(255), 2);
        CHECK.due("told(2)", x.told(2), 2);
    }

    private static void passEdges() {
        PaletteFrames x = new PaletteFrames(2);
        CHECK.badIndex("pass(0, 0) at first", () -> x.pass(0, 0));
        CHECK.badIndex("pass(0, -1) at first", () -> x.pass(0, -1));
        x.put(1, 0, 20);
        CHECK.due("encode()", x.encode(), 4);
        CHECK.badIndex("pass(-1, 1)", () -> x.pass(-1, 1));
        CHECK.badIndex("pass(4, 0)", () -> x.pass(4, 0));
        CHECK.badIndex("pass(4, -1)", () -> x.pass(4, -1));
        CHECK.badIndex("pass(most, most)", () -> x.pass(Integer.MAX_VALUE, Integer.MAX_VALUE));
        CHECK.badArgument("pass(3, -1)", () -> x.pass(3, -1));
        CHECK.badArgument("pass(0, least)", () -> x.pass(0, Integer.MIN_VALUE));
        CHECK.due("told(2)", x.told(2), 0);
        CHECK.due("pass(0, 0)", x.pass(0, 0), 0);
        CHECK.due("pass(0, 2)", x.pass(0, 2), 2);
        CHECK.due("pass(2, most)", x.pass(2, Integer.MAX_VALUE), 2);
        CHECK.due("pass(3, 1)", x.pass(3, 1), 1);
        CHECK.due("told(2)", x.told(2), 5);
        CHECK.due("decode()", x.decode(), 20);
        CHECK.due("told(2)", x.told(2), 0);
    }

    private static void passRefusesTooMany() {
        PaletteFrames x = new PaletteFrames(8);
        for (int i = 0; i < 12; i++) {
            x.put(i * 77, 2 * i + 1, 1000);
        }
        CHECK.due("encode()", x.encode(), 10170);
        x.pass(0, 10170);
        x.pass(0, 10170);
        CHECK.tooMany("pass(0, 3661)", () -> x.pass(0, 3661));
        CHECK.tooMany("pass(0, most)", () -> x.pass(0, Integer.MAX_VALUE));
        CHECK.due("told(2)", x.told(2), 20340);
        CHECK.due("pass(0, 3659)", x.pass(0, 3659), 3659);
        CHECK.due("feed(7)", x.feed(7), 24000);
        CHECK.tooMany("feed(7)", () -> x.feed(7));
        CHECK.badArgument("feed(256) at 24000", () -> x.feed(256));
        CHECK.tooMany("pass(0, 1) at 24000", () -> x.pass(0, 1));
        CHECK.due("pass(0, 0) at 24000", x.pass(0, 0), 0);
        CHECK.badArgument("pass(0, -1) at 24000", () -> x.pass(0, -1));
        CHECK.badIndex("pass(10170, 1) at 24000", () -> x.pass(10170, 1));
        CHECK.due("told(2)", x.told(2), 24000);
        CHECK.due("decode()", x.decode(), 12000);
        CHECK.due("feed(7)", x.feed(7), 1);
    }

    private static void readDue(String what, int least, Bits bits, int answer, int... symbols) {
        PaletteFrames x = new PaletteFrames(least);
        bits.feedTo(x);
        CHECK.due("decode() of " + what, x.decode(), answer);
        CHECK.due("told(3) of " + what, x.told(3), symbols.length);
        for (int i = 0; i < symbols.length; i++) {
            CHECK.due("at(" + i + ") of " + what, x.at(i), symbols[i]);
        }
        CHECK.badIndex("at behind " + what, () -> x.at(symbols.length));
        CHECK.badIndex("at before " + what, () -> x.at(-1));
        CHECK.badIndex("at far before " + what, () -> x.at(Integer.MIN_VALUE));
        CHECK.badIndex("at far behind " + what, () -> x.at(Integer.MAX_VALUE));
        CHECK.due("told(2) of " + what, x.told(2), 0);
    }

    private static void readByHand() {
        readDue("nothing", 2, new Bits(), 0);
        readDue("1, 2, 12", 2, new Bits().code(4, 3).code(1, 3).code(2, 3).code(6, 3).code(5, 4),
                4, 1, 2, 1, 2);
        readDue("what stands behind END", 2, new Bits().code(4, 3).code(1, 3).code(5, 3).code(2, 3).code(7, 3),
                1, 1);
        readDue("END alone", 2, new Bits().code(5, 3).code(1, 3), 0);
    }

    private static void readWithoutClear() {
        readDue("3, 2, 32 without CLEAR", 2, new Bits().code(3, 3).code(2, 3).code(6, 3).code(5, 4),
                4, 3, 2, 3, 2);
    }

    private static void readEndsWithoutAWholeCode() {
        // Nine bits are three codes of 3 bits; the seven that fill the byte are one of 4 bits, 0, and a part.
        readDue("0, 1, 2, and a 0 of the filling", 2, new Bits().code(0, 3).code(1, 3).code(2, 3), 4, 0, 1, 2, 0);
        readDue("one byte", 8, new Bits().code(255, 8), 0);
        readDue("two bytes", 8, new Bits().code(255, 9).code(127, 7), 1, 255);
        readDue("two whole codes", 3, new Bits().code(7, 4).code(6, 4), 2, 7, 6);
    }

    private static void readTheEntryThatWouldBeThere() {
        readDue("1, 11, 111", 2, new Bits().code(4, 3).code(1, 3).code(6, 3).code(7, 3).code(5, 4),
                6, 1, 1, 1, 1, 1, 1);
        readDue("1, 2, 22, 1222", 2,
                new Bits().code(1, 3).code(2, 3).code(7, 3).code(8, 4).code(6, 4).code(5, 4),
                9, 1, 2, 2, 2, 2, 2, 2, 1, 2);
        readDue("behind a CLEAR", 2,
                new Bits().code(1, 3).code(2, 3).code(4, 3).code(3, 3).code(6, 3).code(5, 3),
                5, 1, 2, 3, 3, 3);
    }

    private static void readOddCodes() {
        readDue("6 at first", 2, new Bits().code(6, 3).code(1, 3), -7);
        readDue("7 at first", 2, new Bits().code(4, 3).code(7, 3), -8);
        readDue("7 behind one code", 2, new Bits().code(1, 3).code(7, 3).code(5, 3), -8, 1);
        readDue("6 behind a CLEAR", 2, new Bits().code(1, 3).code(2, 3).code(4, 3).code(6, 3), -7, 1, 2);
        readDue("9 behind three codes", 2, new Bits().code(1, 3).code(2, 3).code(3, 3).code(9, 4), -10, 1, 2, 3);
        readDue("8 behind three codes", 2, new Bits().code(1, 3).code(2, 3).code(3, 3).code(8, 4).code(5, 4),
                5, 1, 2, 3, 3, 3);
        readDue("511 of 8", 8, new Bits().code(256, 9).code(511, 9), -512);
    }

    private static void readClearInside() {
        readDue("CLEARs", 2,
                new Bits().code(4, 3).code(4, 3).code(1, 3).code(2, 3).code(3, 3).code(4, 4)
                        .code(0, 3).code(3, 3).code(6, 3).code(4, 4).code(5, 3),
                7, 1, 2, 3, 0, 3, 0, 3);
    }

    /** Single symbols alone: the widths grow by the number of codes, whatever the codes are. */
    private static void readWidthsWhereNoneWasWritten() {
        Bits bits = new Bits();
        int width = 3;
        int symbols = 0;
        // 400 bytes, so that the object has calls left.
        for (int used = 0; used + width <= 400 * 8; symbols++) {
            bits.code((symbols + 1) % 4, width);
            used += width;
            if (5 + symbols + 1 == 1 << width) {
                width++;
            }
        }
        PaletteFrames x = new PaletteFrames(2);
        bits.feedTo(x);
        CHECK.due("decode() of single symbols", x.decode(), symbols);
        for (int i = 0; i < symbols; i += 7) {
            CHECK.due("at(" + i + ")", x.at(i), (i + 1) % 4);
        }
    }

    private static void readAFullTable() {
        for (int rule = 0; rule <= 2; rule++) {
            for (int least = 2; least <= 8; least++) {
                roundTrip(least, rule);
            }
        }
    }

    /** Coded, passed, read, taken and coded once more, it is the same. */
    private static void roundTrip(int least, int rule) {
        String what = "L " + least + ", rule " + rule;
        PaletteFrames x = new PaletteFrames(least);
        int mask = (1 << least) - 1;
        int[] due = new int[12000];
        int many = 0;
        for (int i = 0; many < 12000; i++) {
            int n = Math.min(12000 - many, 40 + i * i % 97);
            int v = i * i * 31;
            int step = i * 7 + 1;
            x.put(v, step, n);
            for (int k = 0; k < n; k++) {
                due[many++] = (v + k * step) & mask;
            }
        }
        x.rule(rule);
        int bytes = x.encode();
        CHECK.due("pass of " + what, x.pass(0, 24000), bytes);
        CHECK.due("decode of " + what, x.decode(), 12000);
        for (int i = 0; i < 12000; i += 149) {
            CHECK.due("at(" + i + ") of " + what, x.at(i), due[i]);
        }
        CHECK.due("take of " + what, x.take(), 12000);
        CHECK.due("encode again of " + what, x.encode(), bytes);
    }

    private static void readUpToTwelveThousand() {
        PaletteFrames x = new PaletteFrames(2);
        for (int i = 0; i < 12; i++) {
            x.put(3, 0, 1000);
        }
        CHECK.due("encode()", x.encode(), 129);
        x.pass(0, 128);
        CHECK.due("decode() without the byte of END", x.decode(), 12000);
        CHECK.due("65 fit", behind11935(69, 5), 12000);
        CHECK.due("66 do not", behind11935(70, 5), 11935);
        CHECK.due("155 do not", behind11935(159, 1), 11935);
        CHECK.due("one more behind 12000", behind11935(69, 1), 12000);
        CHECK.due("an odd code behind 12000", behind11935(69, 255), -256);
        CHECK.due("CLEAR behind 12000", behind11935(69, 4), 12000);
    }

    /** Strings of 1, 2, .. 154 symbols, which are 11935 in all, and two codes more. */
    private static int behind11935(int code, int next) {
        Bits bits = new Bits();
        int width = 3;
        for (int k = 1; k <= 154; k++) {
            bits.code(k == 1 ? 3 : 4 + k, width);
            if (5 + k == 1 << width) {
                width++;
            }
        }
        bits.code(code, width).code(next, width).code(5, width);
        PaletteFrames x = new PaletteFrames(2);
        bits.feedTo(x);
        int answer = x.decode();
        CHECK.due("told(2)", x.told(2), 0);
        if (answer >= 0) {
            CHECK.due("told(3)", x.told(3), answer);
        }
        return answer;
    }

    private static void readWhatWasCoded() {
        PaletteFrames x = new PaletteFrames(6);
        x.put(9, 5, 333);
        int bytes = x.encode();
        for (int i = 0; i < bytes; i++) {
            CHECK.due("pass(" + i + ", 1)", x.pass(i, 1), 1);
        }
        CHECK.due("decode()", x.decode(), 333);
        CHECK.due("at(332)", x.at(332), (9 + 332 * 5) % 64);
    }

    private static void whatWasReadStays() {
        PaletteFrames x = new PaletteFrames(2);
        new Bits().code(4, 3).code(1, 3).code(2, 3).code(5, 3).feedTo(x);
        CHECK.due("decode()", x.decode(), 2);
        x.feed(0);
        x.put(1, 1, 7);
        x.encode();
        CHECK.due("told(3)", x.told(3), 2);
        CHECK.due("at(1)", x.at(1), 2);
        x.clear();
        CHECK.due("decode() of nothing", x.decode(), 0);
        CHECK.badIndex("at(0)", () -> x.at(0));
    }

    private static void takeMakesTheRow() {
        PaletteFrames x = new PaletteFrames(2);
        x.put(1, 1, 7);
        CHECK.due("take() of nothing", x.take(), 0);
        CHECK.due("told(1)", x.told(1), 0);
        new Bits().code(4, 3).code(1, 3).code(2, 3).code(3, 3).code(15, 4).feedTo(x);
        CHECK.due("decode()", x.decode(), -16);
        x.put(0, 0, 9);
        CHECK.due("take() up to the odd code", x.take(), 3);
        CHECK.due("told(1)", x.told(1), 3);
        CHECK.due("told(3)", x.told(3), 3);
        CHECK.due("put behind it", x.put(0, 0, 1), 4);
        CHECK.due("what was read stays", x.told(3), 3);
        CHECK.due("frame", x.frame(0, 0, 4, 1, false, 0, 0), 0);
        CHECK.due("symbol 0", x.symbol(0, 0, 0), 1);
        CHECK.due("symbol 2", x.symbol(0, 2, 0), 3);
        CHECK.due("symbol 3", x.symbol(0, 3, 0), 0);
        CHECK.due("take() again", x.take(), 3);
    }
}
