/** Promises 7 to 11, a test for each sentence that names a boundary case. */
public final class ReadingEdgesTest {
    private static final Check CHECK = new Check("ReadingEdgesTest");
    private static final int MOST = Integer.MAX_VALUE;
    private static final int LEAST = Integer.MIN_VALUE;
    /** What the row of fullBytes is coded to. */
    private static final int BYTES = 10170;

    public static void main(String[] args) {
        feedZeroTo255();
        feedUpTo24000();
        passFromAByte();
        passNAtMost();
        passBelowZero();
        passUpTo24000();
        roomBehindDecodeAndClear();
        readNothing();
        endsWhereNoWholeCodeIsLeft();
        lastCodeIsJustWhole();
        lastCodeOfManyBitsIsJustWhole();
        endsWithEnd();
        withoutClearAtTheBeginning();
        oddAtFirstAndBehindClear();
        entryThatWouldBeThere();
        firstNumberBehindIt();
        greatestOddCode();
        widthsGrowAtTheirCode();
        entry4095WouldBeThere();
        oddBefore4095();
        noEntryBehind4095();
        clearBehindAFullTable();
        upToTwelveThousand();
        codesBehindTwelveThousand();
        oddCodeIsAnswered();
        whatWasFedGoes();
        symbolsOfWhatWasReadLast();
        takeUpToAnOddCode();
        takeNothingAndAll();
        CHECK.finish();
    }

    private static void feedZeroTo255() {
        CHECK.says("IllegalArgument: it is not 0 .. 255");
        PaletteFrames x = new PaletteFrames(7);
        for (int wrong : new int[] {-1, 256, 257, LEAST, MOST}) {
            CHECK.badArgument("feed(" + wrong + ")", () -> x.feed(wrong));
        }
        CHECK.due("told(2)", x.told(2), 0);
        CHECK.due("feed(255)", x.feed(255), 1);
        CHECK.due("feed(0)", x.feed(0), 2);
        // Codes of 8 bits: 255 is odd at first.
        CHECK.due("decode()", x.decode(), -256);
        x.feed(0);
        x.feed(127);
        CHECK.due("decode()", x.decode(), 2);
        CHECK.due("at(0)", x.at(0), 0);
        CHECK.due("at(1)", x.at(1), 127);
    }

    /** So many bytes wait; bytes are coded too. */
    private static PaletteFrames fullBytes(int waiting) {
        PaletteFrames x = new PaletteFrames(8);
        for (int i = 0; i < 12; i++) {
            x.put(i * 77, 2 * i + 1, 1000);
        }
        CHECK.due("encode()", x.encode(), BYTES);
        for (int left = waiting; left > 0; left -= BYTES) {
            x.pass(0, Math.min(left, BYTES));
        }
        CHECK.due("told(2)", x.told(2), waiting);
        return x;
    }

    private static void feedUpTo24000() {
        CHECK.says("UnsupportedOperation: there are 24000");
        PaletteFrames x = fullBytes(23999);
        CHECK.due("feed(9) behind 23999", x.feed(9), 24000);
        CHECK.tooMany("feed(9) behind 24000", () -> x.feed(9));
        CHECK.tooMany("feed(0) behind 24000", () -> x.feed(0));
        CHECK.badArgument("feed(256) behind 24000", () -> x.feed(256));
        CHECK.due("told(2)", x.told(2), 24000);
        CHECK.due("decode()", x.decode(), 12000);
    }

    private static void passFromAByte() {
        CHECK.says("IndexOutOfBounds: there is no such .. byte");
        PaletteFrames x = new PaletteFrames(2);
        for (int i : new int[] {-1, 0, 1, LEAST, MOST}) {
            CHECK.badIndex("pass(" + i + ", 1) before", () -> x.pass(i, 1));
            CHECK.badIndex("pass(" + i + ", -1) before", () -> x.pass(i, -1));
        }
        x.put(1, 0, 20);
        x.encode();
        for (int i : new int[] {-1, 4, 5, LEAST, MOST}) {
            for (int n : new int[] {LEAST, -1, 0, 1, 4, MOST}) {
                CHECK.badIndex("pass(" + i + ", " + n + ")", () -> x.pass(i, n));
            }
        }
        CHECK.due("told(2)", x.told(2), 0);
        CHECK.due("pass(3, 1)", x.pass(3, 1), 1);
        CHECK.due("pass(0, 1)", x.pass(0, 1), 1);
    }

    private static void passNAtMost() {
        CHECK.says("Bytes of what was coded last, from i on, n at most, are fed: how many were");
        int[][] due = {{0, 0, 0}, {0, 1, 1}, {0, 3, 3}, {0, 4, 4}, {0, 5, 4}, {0, MOST, 4}, {1, 2, 2}, {1, 3, 3},
            {1, 4, 3}, {1, MOST, 3}, {2, MOST - 1, 2}, {3, 0, 0}, {3, 1, 1}, {3, 2, 1}, {3, MOST - 2, 1}, {3, MOST, 1}};
        int waiting = 0;
        PaletteFrames x = new PaletteFrames(2);
        x.put(1, 0, 20);
        CHECK.due("encode()", x.encode(), 4);
        for (int[] d : due) {
            CHECK.due("pass(" + d[0] + ", " + d[1] + ")", x.pass(d[0], d[1]), d[2]);
            waiting += d[2];
            CHECK.due("told(2)", x.told(2), waiting);
        }
        x.decode();
        // Of 4 bytes the two in the middle, and the others fed, in their order.
        x.feed(x.byteAt(0));
        x.pass(1, 2);
        x.feed(x.byteAt(3));
        CHECK.due("decode()", x.decode(), 20);
    }

    private static void passBelowZero() {
        CHECK.says("IllegalArgument: n is below 0");
        PaletteFrames x = new PaletteFrames(2);
        x.encode();
        CHECK.badArgument("pass(0, -1)", () -> x.pass(0, -1));
        CHECK.badArgument("pass(0, least)", () -> x.pass(0, LEAST));
        CHECK.due("pass(0, 0)", x.pass(0, 0), 0);
        CHECK.due("told(2)", x.told(2), 0);
        PaletteFrames y = fullBytes(24000);
        CHECK.badArgument("pass(5, -1) at 24000", () -> y.pass(5, -1));
    }

    private static void passUpTo24000() {
        CHECK.says("UnsupportedOperation: there would be more than there may be");
        PaletteFrames x = fullBytes(2 * BYTES);
        int room = 24000 - 2 * BYTES;
        CHECK.tooMany("one too many", () -> x.pass(0, room + 1));
        CHECK.tooMany("all", () -> x.pass(0, BYTES));
        CHECK.tooMany("n most", () -> x.pass(1, MOST));
        CHECK.due("none of them came", x.told(2), 2 * BYTES);
        CHECK.due("the rest behind i is not too many", x.pass(BYTES - 1, MOST), 1);
        CHECK.due("just so many", x.pass(7, room - 1), room - 1);
        CHECK.tooMany("one at 24000", () -> x.pass(0, 1));
        CHECK.tooMany("the last byte at 24000", () -> x.pass(BYTES - 1, MOST));
        CHECK.due("none at 24000", x.pass(0, 0), 0);
        CHECK.due("told(2)", x.told(2), 24000);
    }

    private static void roomBehindDecodeAndClear() {
        CHECK.says("What was fed is read, and goes");
        PaletteFrames x = fullBytes(24000);
        CHECK.due("decode()", x.decode(), 12000);
        CHECK.due("told(2)", x.told(2), 0);
        CHECK.due("pass of all", x.pass(0, MOST), BYTES);
        CHECK.due("pass of all", x.pass(0, MOST), BYTES);
        x.clear();
        CHECK.due("feed(1) behind clear", x.feed(1), 1);
        CHECK.badIndex("pass(0, 1) behind clear", () -> x.pass(0, 1));
    }

    private static void readNothing() {
        CHECK.says("it ends with END, or where no whole code is left");
        PaletteFrames x = new PaletteFrames(3);
        CHECK.due("decode() of no byte", x.decode(), 0);
        CHECK.due("told(3)", x.told(3), 0);
        new Bits().code(8, 4).code(1, 4).code(9, 4).feedTo(x);
        CHECK.due("decode()", x.decode(), 1);
        CHECK.due("decode() of no byte once more", x.decode(), 0);
        CHECK.due("told(3)", x.told(3), 0);
        CHECK.badIndex("at(0)", () -> x.at(0));
    }

    /** Bytes of 0 alone are codes of the symbol 0. */
    private static void endsWhereNoWholeCodeIsLeft() {
        CHECK.says("it ends .. where no whole code is left");
        for (int least = 2; least <= 8; least++) {
            PaletteFrames x = new PaletteFrames(least);
            for (int many = 0; many <= 28; many++) {
                int due = 0;
                int bits = least + 1;
                while (bits <= many * 8) {
                    due++;
                    bits += Rows.widthBehind(least, due);
                }
                for (int i = 0; i < many; i++) {
                    x.feed(0);
                }
                CHECK.due("decode() of " + many + " bytes, L " + least, x.decode(), due);
            }
        }
    }

    private static void lastCodeIsJustWhole() {
        CHECK.says("it ends .. where no whole code is left");
        for (int least = 2; least <= 8; least++) {
            // Eight codes of L + 1 bits (with CLEARs between them) fill just L + 1 bytes.
            Bits bits = new Bits();
            for (int i = 0; i < 8; i++) {
                bits.code(i % 2 == 0 ? 1 << least : 3, least + 1);
            }
            PaletteFrames x = new PaletteFrames(least);
            int[] bytes = bits.bytes();
            bits.feedTo(x);
            CHECK.due("bytes, L " + least, bytes.length, least + 1);
            CHECK.due("decode(), L " + least, x.decode(), 4);
            for (int i = 0; i < bytes.length - 1; i++) {
                x.feed(bytes[i]);
            }
            CHECK.due("decode() of one byte less, L " + least, x.decode(), least == 2 ? 2 : 3);
        }
    }

    private static void lastCodeOfManyBitsIsJustWhole() {
        CHECK.says("it ends .. where no whole code is left");
        for (int least = 2; least <= 8; least++) {
            for (int width = 9; width <= (least < 5 ? 11 : 12); width++) {
                // The last codes of that width.
                cutBehind(least, (1 << width) - (1 << least) - 20);
            }
        }
    }

    /** Cut behind some codes, at each place in a byte, the last byte filled with 0, and one byte before. */
    private static void cutBehind(int least, int from) {
        PaletteFrames x = Rows.longRow(least);
        x.encode();
        int before = Rows.readCodes(least, from - 1).told(3);
        for (int many = from; many < from + 12; many++) {
            int due = Rows.readCodes(least, many).told(3);
            Rows.passCodes(x, many, new Bits());
            CHECK.due("decode() of " + many + " codes, L " + least, x.decode(), due);
            CHECK.due("the last symbol of " + many + " codes, L " + least, x.at(due - 1), wholeRead(least).at(due - 1));
            x.pass(0, (Rows.bitsOf(least, many) - 1) / 8);
            CHECK.due("decode() of a part of code " + many + ", L " + least, x.decode(), before);
            before = due;
        }
    }

    private static PaletteFrames wholeRead(int least) {
        PaletteFrames x = Rows.longRow(least);
        x.encode();
        x.pass(0, MOST);
        x.decode();
        return x;
    }

    private static void endsWithEnd() {
        CHECK.says("it ends with END");
        for (int least = 2; least <= 8; least++) {
            int clear = 1 << least;
            int width = least + 1;
            PaletteFrames x = new PaletteFrames(least);
            new Bits().code(clear + 1, width).code(1, width).code(clear + 3, width).feedTo(x);
            CHECK.due("END at first, L " + least, x.decode(), 0);
            new Bits().code(clear, width).code(clear - 1, width).code(clear + 1, width).code(clear + 3, width)
                    .code(0, 16).feedTo(x);
            CHECK.due("END behind one symbol, L " + least, x.decode(), 1);
            CHECK.due("at(0), L " + least, x.at(0), clear - 1);
            CHECK.due("told(2), L " + least, x.told(2), 0);
        }
    }

    private static void withoutClearAtTheBeginning() {
        CHECK.says("Without a CLEAR at the beginning it is as if there was one");
        for (int least = 2; least <= 8; least++) {
            int clear = 1 << least;
            int width = least + 1;
            for (int clears = 0; clears <= 3; clears++) {
                Bits bits = new Bits();
                for (int i = 0; i < clears; i++) {
                    bits.code(clear, width);
                }
                bits.code(2, width).code(3, width);
                bits.code(clear + 2, width).code(clear + 1, Rows.widthBehind(least, 3));
                readDue(clears + " CLEARs, L " + least, least, bits, 4, 2, 3, 2, 3);
            }
        }
        // The table of an earlier reading is no more there.
        PaletteFrames x = new PaletteFrames(2);
        new Bits().code(4, 3).code(1, 3).code(2, 3).code(5, 3).feedTo(x);
        CHECK.due("decode()", x.decode(), 2);
        new Bits().code(6, 3).feedTo(x);
        CHECK.due("decode() of 6", x.decode(), -7);
        new Bits().code(0, 3).code(0, 3).code(0, 3).code(5, 4).feedTo(x);
        CHECK.due("decode()", x.decode(), 3);
        new Bits().code(0, 3).code(5, 3).feedTo(x);
        CHECK.due("decode() with the first width", x.decode(), 1);
    }

    private static void oddAtFirstAndBehindClear() {
        CHECK.says("if a code of an entry came before since the latest CLEAR");
        for (int least = 2; least <= 8; least++) {
            int clear = 1 << least;
            int width = least + 1;
            int would = clear + 2;
            readDue("at first", least, new Bits().code(would, width), -1 - would);
            readDue("behind CLEAR", least, new Bits().code(clear, width).code(would, width), -1 - would);
            readDue("behind a symbol and CLEAR", least,
                    new Bits().code(1, width).code(clear, width).code(would, width), -1 - would, 1);
            readDue("behind two symbols and CLEAR", least,
                    new Bits().code(1, width).code(0, width).code(clear, width).code(would, width), -1 - would, 1, 0);
            readDue("behind CLEAR and a symbol", least, new Bits().code(1, width).code(clear, width)
                    .code(2, width).code(would, width).code(clear + 1, width), 4, 1, 2, 2, 2);
        }
    }

    /** The k-th string is one longer than the one before it. */
    private static void entryThatWouldBeThere() {
        CHECK.says("its string is that one's, and the first symbol of it once more");
        for (int least = 2; least <= 8; least++) {
            for (int many = 1; many <= 150; many += many < 20 ? 1 : 13) {
                Bits bits = new Bits();
                growing(bits, least, many).code((1 << least) + 1, Rows.widthBehind(least, many));
                PaletteFrames x = new PaletteFrames(least);
                bits.feedTo(x);
                int due = many * (many + 1) / 2;
                CHECK.due(many + " strings, L " + least, x.decode(), due);
                CHECK.due("the last symbol, L " + least, x.at(due - 1), 3);
            }
        }
        // Two symbols, then each string but the first begins with the second: 1 2 22 222.
        readDue("1 2 22 222", 2, new Bits().code(1, 3).code(2, 3).code(7, 3).code(8, 4).code(5, 4),
                7, 1, 2, 2, 2, 2, 2, 2);
        readDue("1 2 12 121", 2, new Bits().code(1, 3).code(2, 3).code(6, 3).code(8, 4).code(5, 4),
                7, 1, 2, 1, 2, 1, 2, 1);
    }

    /** Behind a CLEAR: the symbol 3, and each time the entry that would be there. */
    private static Bits growing(Bits bits, int least, int many) {
        for (int k = 0; k < many; k++) {
            bits.code(k == 0 ? 3 : (1 << least) + 1 + k, Rows.widthBehind(least, k));
        }
        return bits;
    }

    private static void firstNumberBehindIt() {
        CHECK.says("A code is ODD if no entry has it; but that with the number of the entry that would be there now is not");
        for (int least = 2; least <= 8; least++) {
            for (int many = 1; many <= 150; many += many < 20 ? 1 : 13) {
                int would = (1 << least) + 1 + many;
                int width = Rows.widthBehind(least, many);
                if (would + 1 >= 1 << width) {
                    continue;
                }
                PaletteFrames x = new PaletteFrames(least);
                growing(new Bits(), least, many).code(would + 1, width).feedTo(x);
                CHECK.due("behind " + many + " codes, L " + least, x.decode(), -2 - would);
                CHECK.due("told(3)", x.told(3), many * (many + 1) / 2);
                growing(new Bits(), least, many).code(would, width).code((1 << least) + 1, Rows.widthBehind(least, many + 1))
                        .feedTo(x);
                CHECK.due("the one that is not odd", x.decode(), (many + 1) * (many + 2) / 2);
            }
        }
    }

    private static void greatestOddCode() {
        CHECK.says("if a code was odd: -1, less that code");
        for (int least = 2; least <= 8; least++) {
            int greatest = (2 << least) - 1;
            readDue("the greatest of the first width", least, new Bits().code(greatest, least + 1), -1 - greatest);
        }
        for (int least = 2; least <= 8; least++) {
            // The first code of 12 bits.
            int k = 2048 - (1 << least) - 1;
            PaletteFrames x = Rows.longRow(least);
            x.encode();
            Rows.passCodes(x, k, new Bits().code(4095, 12));
            CHECK.due("4095, L " + least, x.decode(), -4096);
            CHECK.due("up to it, L " + least, x.told(3), Rows.readCodes(least, k).told(3));
        }
    }

    private static void widthsGrowAtTheirCode() {
        CHECK.says("READING is the same the other way round, .. with the widths as told");
        for (int least = 2; least <= 8; least++) {
            for (int width = least + 1; width < 12; width++) {
                int k = (1 << width) - (1 << least) - 1;
                readsCodes(least, k - 1, width);
                readsCodes(least, k, width + 1);
                readsCodes(least, k + 1, width + 1);
            }
        }
        for (int least = 5; least <= 8; least++) {
            int k = 4096 - (1 << least) - 1;
            readsCodes(least, k - 1, 12);
            readsCodes(least, k, 12);
            readsCodes(least, k + 1, 12);
            readsCodes(least, k + 100, 12);
        }
    }

    /** Behind k codes a symbol in the width that is due, and END. */
    private static void readsCodes(int least, int k, int width) {
        PaletteFrames x = Rows.readCodes(least, k);
        int read = x.told(3);
        int end = (1 << least) + 1;
        Rows.passCodes(x, k, new Bits().code(3, width).code(end, Rows.widthBehind(least, k + 1)).code(0, 16));
        CHECK.due("decode() behind " + k + " codes, L " + least, x.decode(), read + 1);
        CHECK.due("the last symbol behind " + k + " codes, L " + least, x.at(read), 3);
    }

    private static void entry4095WouldBeThere() {
        CHECK.says("that with the number of the entry that would be there now is not");
        for (int least = 5; least <= 8; least++) {
            int most = Rows.mostEntries(least);
            int begin = Rows.readCodes(least, most - 1).told(3);
            PaletteFrames x = Rows.readCodes(least, most);
            int read = x.told(3);
            Rows.passCodes(x, most, new Bits().code(4095, 12).code(4095, 12).code((1 << least) + 1, 12));
            CHECK.due("decode(), L " + least, x.decode(), read + 2 * (read - begin + 1));
            CHECK.due("its last symbol, L " + least, x.at(2 * read - begin), x.at(begin));
            CHECK.due("the last symbol, L " + least, x.at(x.told(3) - 1), x.at(begin));
        }
    }

    private static void oddBefore4095() {
        CHECK.says("A code is ODD if no entry has it");
        for (int least = 5; least <= 8; least++) {
            int most = Rows.mostEntries(least);
            PaletteFrames x = Rows.readCodes(least, most - 1);
            int read = x.told(3);
            Rows.passCodes(x, most - 1, new Bits().code(4095, 12).code((1 << least) + 1, 12));
            CHECK.due("4095 for 4094, L " + least, x.decode(), -4096);
            CHECK.due("up to it, L " + least, x.told(3), read);
            Rows.passCodes(x, most - 1, new Bits().code(4094, 12).code((1 << least) + 1, 12));
            CHECK.due("4094, L " + least, x.decode() > read ? 1 : 0, 1);
        }
    }

    private static void noEntryBehind4095() {
        CHECK.says("those with numbers from 2^L + 2 on, up to 4095");
        for (int least = 5; least <= 8; least++) {
            int most = Rows.mostEntries(least);
            int end = (1 << least) + 1;
            PaletteFrames x = Rows.readCodes(least, most);
            int read = x.told(3);
            // The first of these makes entry 4095 whole; the others make none.
            Bits more = new Bits().code(1, 12).code(2, 12).code(3, 12).code(4, 12).code(4095, 12).code(end + 1, 12);
            Rows.passCodes(x, most, more.code(end, 12));
            int begin = Rows.readCodes(least, most - 1).told(3);
            int length = read - begin + 1;
            CHECK.due("decode(), L " + least, x.decode(), read + 4 + length + 2);
            for (int i = 0; i < length; i++) {
                CHECK.due("symbol " + i + " of 4095, L " + least, x.at(read + 4 + i), x.at(begin + i));
            }
            CHECK.due("the first entry's, L " + least, x.at(read + 4 + length), x.at(0));
            CHECK.due("the first entry's, L " + least, x.at(read + 4 + length + 1), x.at(1));
        }
    }

    private static void clearBehindAFullTable() {
        CHECK.says("CLEAR takes all entries with numbers above END away");
        for (int least = 5; least <= 8; least++) {
            int most = Rows.mostEntries(least);
            int clear = 1 << least;
            PaletteFrames x = Rows.readCodes(least, most + 1);
            int read = x.told(3);
            Rows.passCodes(x, most + 1, new Bits().code(clear, 12).code(7, least + 1).code(clear + 2, least + 1)
                    .code(clear + 1, least + 1));
            CHECK.due("decode(), L " + least, x.decode(), read + 3);
            CHECK.due("the last symbol, L " + least, x.at(read + 2), 7);
            Rows.passCodes(x, most + 1, new Bits().code(clear, 12).code(clear + 2, least + 1));
            CHECK.due("decode(), L " + least, x.decode(), -1 - clear - 2);
            Rows.passCodes(x, most + 1, new Bits().code(clear, 12).code(7, least + 1).code(clear + 3, least + 1));
            CHECK.due("decode(), L " + least, x.decode(), -1 - clear - 3);
            CHECK.due("up to it, L " + least, x.told(3), read + 1);
        }
    }

    /** The strings of 1, 2, .. 154 symbols, 11935 in all, and some codes. */
    private static PaletteFrames behind11935(int... codes) {
        Bits bits = growing(new Bits(), 2, 154);
        for (int i = 0; i < codes.length; i++) {
            bits.code(codes[i], 8);
        }
        PaletteFrames x = new PaletteFrames(2);
        bits.feedTo(x);
        return x;
    }

    private static void upToTwelveThousand() {
        CHECK.says("before a code whose string would make more than 12000 symbols");
        // Entry 5 + k has k + 1 symbols.
        PaletteFrames just = behind11935(69, 5);
        CHECK.due("65 more", just.decode(), 12000);
        CHECK.due("told(3)", just.told(3), 12000);
        CHECK.due("at(11999)", just.at(11999), 3);
        CHECK.badIndex("at(12000)", () -> just.at(12000));
        PaletteFrames over = behind11935(70, 1, 5);
        CHECK.due("66 more", over.decode(), 11935);
        CHECK.due("told(3)", over.told(3), 11935);
        CHECK.due("told(2)", over.told(2), 0);
        CHECK.badIndex("at(11935)", () -> over.at(11935));
        CHECK.due("the one that would be there", behind11935(159, 5).decode(), 11935);
        CHECK.due("64 and one more", behind11935(68, 1, 5).decode(), 12000);
        CHECK.due("64 and two more", behind11935(68, 6, 5).decode(), 11999);
        CHECK.due("a symbol behind the one that does not fit", behind11935(70, 1, 1).decode(), 11935);
    }

    private static void codesBehindTwelveThousand() {
        CHECK.says("before a code whose string would make more than 12000 symbols");
        CHECK.due("a symbol", behind11935(69, 1, 255).decode(), 12000);
        CHECK.due("END", behind11935(69, 5, 255).decode(), 12000);
        CHECK.due("CLEAR", behind11935(69, 4).decode(), 12000);
        CHECK.due("no code", behind11935(69).decode(), 12000);
        CHECK.says("It ends with an odd code, too");
        CHECK.due("an odd code", behind11935(69, 255).decode(), -256);
        CHECK.due("an odd code behind one that does not fit", behind11935(70, 255).decode(), 11935);
        PaletteFrames x = behind11935(69, 255);
        x.decode();
        CHECK.due("told(3)", x.told(3), 12000);
    }

    private static void oddCodeIsAnswered() {
        CHECK.says("if a code was odd: -1, less that code");
        readDue("6", 2, new Bits().code(4, 3).code(6, 3).code(1, 3).code(1, 3), -7);
        readDue("7", 2, new Bits().code(4, 3).code(3, 3).code(7, 3).code(1, 3), -8, 3);
        readDue("15", 2, new Bits().code(0, 3).code(1, 3).code(2, 3).code(15, 4).code(1, 4), -16, 0, 1, 2);
        readDue("259", 8, new Bits().code(256, 9).code(255, 9).code(259, 9), -260, 255);
    }

    private static void whatWasFedGoes() {
        CHECK.says("What was fed is read, and goes");
        PaletteFrames x = new PaletteFrames(2);
        new Bits().code(4, 3).code(6, 3).code(0, 40).feedTo(x);
        CHECK.due("decode() of an odd code", x.decode(), -7);
        CHECK.due("told(2)", x.told(2), 0);
        CHECK.due("decode() once more", x.decode(), 0);
        new Bits().code(4, 3).code(5, 3).code(0, 40).feedTo(x);
        CHECK.due("decode() of END", x.decode(), 0);
        CHECK.due("told(2)", x.told(2), 0);
        CHECK.due("feed(1)", x.feed(1), 1);
    }

    private static void symbolsOfWhatWasReadLast() {
        CHECK.says("Symbol i of what was read last (up to an odd code)");
        PaletteFrames x = new PaletteFrames(2);
        CHECK.badIndex("at(0) before", () -> x.at(0));
        new Bits().code(3, 3).code(2, 3).code(1, 3).code(5, 4).feedTo(x);
        CHECK.badIndex("at(0) of what waits", () -> x.at(0));
        CHECK.due("decode()", x.decode(), 3);
        for (int wrong : new int[] {-1, 3, 4, LEAST, MOST}) {
            CHECK.badIndex("at(" + wrong + ")", () -> x.at(wrong));
        }
        CHECK.due("at(0)", x.at(0), 3);
        CHECK.due("at(2)", x.at(2), 1);
        new Bits().code(0, 3).code(7, 3).feedTo(x);
        CHECK.due("at(2) until it is read", x.at(2), 1);
        CHECK.due("decode()", x.decode(), -8);
        CHECK.due("at(0)", x.at(0), 0);
        CHECK.badIndex("at(1) at the odd code", () -> x.at(1));
        x.clear();
        CHECK.badIndex("at(0) behind clear", () -> x.at(0));
    }

    private static void takeUpToAnOddCode() {
        CHECK.says("What was read last (up to an odd code) is the row now");
        PaletteFrames x = new PaletteFrames(2);
        x.put(1, 0, 9);
        new Bits().code(3, 3).code(2, 3).code(7, 3).code(15, 4).feedTo(x);
        CHECK.due("decode()", x.decode(), -16);
        CHECK.due("take()", x.take(), 4);
        CHECK.due("told(1)", x.told(1), 4);
        CHECK.badState("frame of five", () -> x.frame(0, 0, 5, 1, false, 0, 0));
        CHECK.due("frame of four", x.frame(0, 0, 4, 1, false, 0, 0), 0);
        int[] due = {3, 2, 2, 2};
        for (int i = 0; i < 4; i++) {
            CHECK.due("symbol " + i, x.symbol(0, i, 0), due[i]);
            CHECK.due("at(" + i + ") is still there", x.at(i), due[i]);
        }
        CHECK.due("take() once more", x.take(), 4);
        new Bits().code(6, 3).feedTo(x);
        CHECK.due("decode() of an odd code at first", x.decode(), -7);
        CHECK.due("take() of no symbol", x.take(), 0);
    }

    private static void takeNothingAndAll() {
        CHECK.says("is the row now: how many symbols that has");
        PaletteFrames x = new PaletteFrames(2);
        CHECK.due("take() of nothing", x.take(), 0);
        x.put(1, 0, 9);
        CHECK.due("take() of nothing", x.take(), 0);
        CHECK.badState("frame", () -> x.frame(0, 0, 1, 1, false, 0, 0));
        CHECK.due("encode() of no symbol", x.encode(), 1);
        PaletteFrames y = behind11935(69, 5);
        y.put(1, 0, 1000);
        y.decode();
        CHECK.due("take() of all", y.take(), 12000);
        CHECK.due("told(1)", y.told(1), 12000);
        CHECK.tooMany("put", () -> y.put(0, 0, 1));
        CHECK.due("frame", y.frame(0, 0, 24, 24, false, 0, 0), 0);
        CHECK.due("told(1)", y.told(1), 12000 - 576);
        CHECK.due("told(3)", y.told(3), 12000);
        CHECK.due("take() of all", y.take(), 12000);
    }

    private static void readDue(String what, int least, Bits bits, int answer, int... symbols) {
        PaletteFrames x = new PaletteFrames(least);
        bits.feedTo(x);
        CHECK.due("decode() of " + what + ", L " + least, x.decode(), answer);
        CHECK.due("told(3) of " + what + ", L " + least, x.told(3), symbols.length);
        for (int i = 0; i < symbols.length && i < x.told(3); i++) {
            CHECK.due("at(" + i + ") of " + what + ", L " + least, x.at(i), symbols[i]);
        }
    }
}
