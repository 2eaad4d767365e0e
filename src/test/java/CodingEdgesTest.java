import java.util.Arrays;

/** Promises 1 to 6, a test for each sentence that names a boundary case. */
public final class CodingEdgesTest {
    private static final Check CHECK = new Check("CodingEdgesTest");
    private static final int MOST = Integer.MAX_VALUE;
    private static final int LEAST = Integer.MIN_VALUE;

    public static void main(String[] args) {
        nearestOfTwoToEight();
        newRowHasNoSymbols();
        putOneToThousand();
        putUpToTwelveThousand();
        putBehindAFullRowThatGotShorter();
        putRestOfNegativeAndLargeNumbers();
        ruleZeroToTwo();
        ruleAtFirstZero();
        emptyRow();
        oneSymbolMakesNoEntry();
        firstEntryIsBehindEnd();
        longestString();
        entriesUpTo4095();
        entry4095IsWritten();
        noEntryBehind4095();
        clearTakesAllEntriesAway();
        ruleZeroWhenThereIsAnEntry4095();
        ruleOneNever();
        noClearBeforeEnd();
        ruleTwoSixtyFourCodes();
        ruleTwoLessThan256Symbols();
        ruleTwoSinceTheLatestLook();
        ruleTwoBehindItsClear();
        widthsAtFirstAndBehindClear();
        widthsGrowAtTheirCode();
        widthTwelveStays();
        lastByteIsFilledWithZero();
        fullRowOfTheWidestCodes();
        bytesOfWhatWasCodedLast();
        codedBeforeAndOfAnotherWhat();
        CHECK.finish();
    }

    private static void nearestOfTwoToEight() {
        CHECK.says("L is this number, 2 .. 8 (for another one the nearest of these)");
        int[][] due = {{LEAST, 2}, {-3, 2}, {0, 2}, {1, 2}, {2, 2}, {3, 3}, {7, 7}, {8, 8}, {9, 8}, {255, 8}, {MOST, 8}};
        for (int[] d : due) {
            PaletteFrames x = new PaletteFrames(d[0]);
            CHECK.due("told(0) of " + d[0], x.told(0), d[1]);
            x.put(-1, 0, 1);
            x.frame(0, 0, 1, 1, false, 0, 0);
            CHECK.due("the last symbol of " + d[0], x.symbol(0, 0, 0), (1 << d[1]) - 1);
            x.encode();
            CHECK.due("the first width of " + d[0], x.coded(2), d[1] + 1);
        }
    }

    private static void newRowHasNoSymbols() {
        CHECK.says("the row has no symbols");
        PaletteFrames x = new PaletteFrames(5);
        CHECK.due("told(1)", x.told(1), 0);
        CHECK.badState("frame of one", () -> x.frame(0, 0, 1, 1, false, 0, 0));
        CHECK.due("put of one", x.put(0, 0, 1), 1);
    }

    private static void putOneToThousand() {
        CHECK.says("IllegalArgument: n is not 1 .. 1000");
        PaletteFrames x = new PaletteFrames(2);
        CHECK.badArgument("n 0", () -> x.put(0, 0, 0));
        CHECK.due("n 1", x.put(0, 0, 1), 1);
        CHECK.due("n 1000", x.put(0, 0, 1000), 1001);
        CHECK.badArgument("n 1001", () -> x.put(0, 0, 1001));
        CHECK.badArgument("n -1", () -> x.put(0, 0, -1));
        CHECK.badArgument("n least", () -> x.put(0, 0, LEAST));
        CHECK.badArgument("n most", () -> x.put(0, 0, MOST));
        CHECK.due("told(1)", x.told(1), 1001);
    }

    private static PaletteFrames rowOf(int least, int many) {
        PaletteFrames x = new PaletteFrames(least);
        for (int left = many; left > 0; left -= 1000) {
            x.put(left, 1, Math.min(left, 1000));
        }
        return x;
    }

    private static void putUpToTwelveThousand() {
        CHECK.says("THE ROW is of symbols, 12000 at most");
        CHECK.due("1000 behind 11000", rowOf(2, 11000).put(0, 0, 1000), 12000);
        CHECK.due("1 behind 11999", rowOf(2, 11999).put(0, 0, 1), 12000);
        PaletteFrames x = rowOf(2, 11001);
        CHECK.tooMany("1000 behind 11001", () -> x.put(0, 0, 1000));
        CHECK.due("none of them came", x.told(1), 11001);
        CHECK.due("999 behind 11001", x.put(0, 0, 999), 12000);
        CHECK.tooMany("1 behind 12000", () -> x.put(0, 0, 1));
        CHECK.tooMany("1000 behind 12000", () -> x.put(0, 0, 1000));
        CHECK.due("told(1)", x.told(1), 12000);
    }

    private static void putBehindAFullRowThatGotShorter() {
        CHECK.says("THE ROW is of symbols, 12000 at most");
        PaletteFrames x = rowOf(2, 12000);
        x.frame(0, 0, 3, 1, false, 0, 0);
        CHECK.tooMany("4 behind 11997", () -> x.put(0, 0, 4));
        CHECK.due("3 behind 11997", x.put(0, 0, 3), 12000);
        x.encode();
        x.pass(0, 24000);
        CHECK.due("decode()", x.decode(), 12000);
        CHECK.due("take()", x.take(), 12000);
        CHECK.tooMany("1 behind what was taken", () -> x.put(0, 0, 1));
        x.clear();
        CHECK.due("1000 behind clear", x.put(0, 0, 1000), 1000);
    }

    private static void putRestOfNegativeAndLargeNumbers() {
        CHECK.says("v, v + step, and so on, each as its rest by 2^L");
        int[] numbers = {LEAST, LEAST + 1, -257, -256, -255, -1, 0, 1, 255, 256, 257, MOST - 1, MOST};
        for (int least = 2; least <= 8; least++) {
            for (int v : numbers) {
                for (int step : numbers) {
                    restsDue(least, v, step);
                }
            }
        }
    }

    private static void restsDue(int least, int v, int step) {
        PaletteFrames x = new PaletteFrames(least);
        x.put(v, step, 1000);
        x.frame(0, 0, 24, 20, false, 0, 0);
        x.frame(0, 0, 24, 20, false, 0, 0);
        for (int i : new int[] {0, 1, 2, 3, 4, 100, 479, 480, 959}) {
            long due = Math.floorMod(v + (long) i * step, (long) (1 << least));
            int place = i % 480;
            CHECK.due("symbol " + i + " of put(" + v + ", " + step + ", 1000), L " + least,
                    x.symbol(i / 480, place % 24, place / 24), due);
        }
    }

    private static void ruleZeroToTwo() {
        CHECK.says("IllegalArgument: it is not 0 .. 2");
        PaletteFrames x = new PaletteFrames(2);
        for (int wrong : new int[] {-1, 3, LEAST, MOST}) {
            CHECK.badArgument("rule(" + wrong + ")", () -> x.rule(wrong));
        }
        CHECK.due("rule(2)", x.rule(2), 0);
        for (int wrong : new int[] {-1, 3, LEAST, MOST}) {
            CHECK.badArgument("rule(" + wrong + ")", () -> x.rule(wrong));
        }
        CHECK.due("rule(0)", x.rule(0), 2);
        CHECK.due("rule(1)", x.rule(1), 0);
    }

    private static void ruleAtFirstZero() {
        CHECK.says("Another rule: the one before, at first 0");
        for (int rule = 0; rule <= 2; rule++) {
            CHECK.due("rule(" + rule + ") at first", new PaletteFrames(2).rule(rule), 0);
        }
        PaletteFrames x = rowOfPairs(Rows.mostEntries(8) + 1);
        x.encode();
        CHECK.due("CLEARs of the rule at first", x.coded(1), 2);
    }

    private static void emptyRow() {
        CHECK.says("the code CLEAR; then, as long as symbols are left: ..; then END");
        for (int least = 2; least <= 8; least++) {
            for (int rule = 0; rule <= 2; rule++) {
                PaletteFrames x = new PaletteFrames(least);
                x.rule(rule);
                codesDue(x, 1 << least, (1 << least) + 1);
                codedDue(x, 2, 1, least + 1, 0);
            }
        }
        PaletteFrames x = new PaletteFrames(4);
        x.put(1, 1, 24);
        x.encode();
        x.frame(0, 0, 24, 1, false, 0, 0);
        codesDue(x, 16, 17);
        codedDue(x, 2, 1, 5, 0);
    }

    private static void oneSymbolMakesNoEntry() {
        CHECK.says("Behind the writing of an entry's code there is a new entry, if symbols are left");
        for (int least = 2; least <= 8; least++) {
            int last = (1 << least) - 1;
            PaletteFrames x = new PaletteFrames(least);
            x.put(last, 0, 1);
            codesDue(x, last + 1, last, last + 2);
            codedDue(x, 3, 1, least + 1, 0);
            x.put(0, 0, 1);
            codesDue(x, last + 1, last, 0, last + 2);
            codedDue(x, 4, 1, least + 1, 1);
        }
    }

    private static void firstEntryIsBehindEnd() {
        CHECK.says("those with numbers from 2^L + 2 on");
        for (int least = 2; least <= 8; least++) {
            int clear = 1 << least;
            PaletteFrames x = new PaletteFrames(least);
            x.put(clear - 1, 0, 3);
            codesDue(x, clear, clear - 1, clear + 2, clear + 1);
            codedDue(x, 4, 1, least + 1, 1);
        }
    }

    private static void longestString() {
        CHECK.says("the entry with the longest string with which what is left begins");
        PaletteFrames x = new PaletteFrames(3);
        x.put(1, 1, 2);
        x.put(1, 1, 3);
        x.put(1, 1, 3);
        // 1, 2, 12, 3, then 123; the entries are 12, 21, 123, 31.
        codesDue(x, 8, 1, 2, 10, 3, 12, 9);
        codedDue(x, 7, 1, 4, 4);
        x.put(1, 1, 2);
        // 12 alone is left, the beginning of 123.
        codesDue(x, 8, 1, 2, 10, 3, 12, 10, 9);
    }

    private static void entriesUpTo4095() {
        CHECK.says("numbers from 2^L + 2 on, up to 4095");
        for (int least = 5; least <= 8; least++) {
            int most = Rows.mostEntries(least);
            for (int k = most - 1; k <= most + 2; k++) {
                PaletteFrames x = Rows.rowOfCodes(least, k);
                x.encode();
                codedDue(x, k + 2, 1, 12, Math.min(k - 1, most));
            }
        }
    }

    private static void entry4095IsWritten() {
        CHECK.says("those with numbers from 2^L + 2 on, up to 4095, in the order in which they come");
        for (int least = 5; least <= 8; least++) {
            int most = Rows.mostEntries(least);
            PaletteFrames before = Rows.readCodes(least, most - 1);
            PaletteFrames x = Rows.readCodes(least, most);
            int begin = before.told(3);
            int length = x.told(3) - begin;
            x.take();
            // The string of the last code, twice over: entry 4095 is it and its first symbol.
            for (int i = 0; i <= length; i++) {
                x.put(x.at(begin + i % length), 0, 1);
            }
            x.encode();
            codedDue(x, most + 3, 1, 12, most);
            CHECK.due("the code behind the last entry, L " + least, Bits.codeOf(x, Rows.bitsOf(least, most), 12), 4095);
        }
    }

    private static void noEntryBehind4095() {
        CHECK.says("there is a new entry, if symbols are left, and 4095 is not passed");
        for (int least = 5; least <= 8; least++) {
            PaletteFrames x = Rows.fillingRow(least);
            x.encode();
            int codes = x.coded(0);
            x.rule(1);
            for (int i = 0; i < 50; i++) {
                x.put(i * i, 3 * i, 7);
            }
            x.encode();
            CHECK.due("entries, L " + least, x.coded(3), Rows.mostEntries(least));
            CHECK.due("there were codes behind it, L " + least, x.coded(0) > codes ? 1 : 0, 1);
            int highest = 0;
            for (int k = Rows.mostEntries(least); k < x.coded(0) - 2 && k < Rows.mostEntries(least) + 8; k++) {
                highest = Math.max(highest, Bits.codeOf(x, Rows.bitsOf(least, k), 12));
            }
            CHECK.due("no code above 4095, L " + least, Math.max(4095, highest), 4095);
        }
    }

    private static void clearTakesAllEntriesAway() {
        CHECK.says("CLEAR takes all entries with numbers above END away");
        for (int least = 5; least <= 8; least++) {
            PaletteFrames x = Rows.fillingRow(least);
            int most = Rows.mostEntries(least);
            int end = (1 << least) + 1;
            int from = Rows.bitsOf(least, most) + 12;
            x.rule(0);
            x.encode();
            int last = Bits.codeOf(x, from, least + 1);
            // It and four more of it come behind the CLEAR: the symbol, two, and two.
            x.put(last, 0, 4);
            x.encode();
            codedDue(x, 1 + most + 1 + 3 + 1, 2, least + 1, 2);
            CHECK.due("CLEAR, L " + least, Bits.codeOf(x, from - 12, 12), end - 1);
            int[] due = {last, end + 1, end + 1, end};
            for (int i = 0; i < due.length; i++) {
                CHECK.due("code " + i + " behind CLEAR, L " + least,
                        Bits.codeOf(x, from + i * (least + 1), least + 1), due[i]);
            }
        }
    }

    private static void ruleZeroWhenThereIsAnEntry4095() {
        CHECK.says("0: when there is an entry 4095");
        for (int least = 5; least <= 8; least++) {
            int most = Rows.mostEntries(least);
            PaletteFrames x = Rows.rowOfCodes(least, most);
            x.rule(0);
            x.encode();
            codedDue(x, most + 2, 1, 12, most - 1);
            PaletteFrames y = Rows.fillingRow(least);
            y.rule(0);
            y.encode();
            codedDue(y, most + 4, 2, least + 1, 0);
            PaletteFrames z = Rows.rowOfCodes(least, most - 1);
            z.rule(0);
            z.encode();
            codedDue(z, most + 1, 1, 12, most - 2);
        }
    }

    private static void ruleOneNever() {
        CHECK.says("1: never");
        for (int least = 5; least <= 8; least++) {
            PaletteFrames x = Rows.longRow(least);
            x.encode();
            CHECK.due("CLEARs, L " + least, x.coded(1), 1);
            CHECK.due("entries, L " + least, x.coded(3), Rows.mostEntries(least));
            PaletteFrames y = Rows.fillingRow(least);
            y.encode();
            codedDue(y, Rows.mostEntries(least) + 3, 1, 12, Rows.mostEntries(least));
        }
    }

    private static void noClearBeforeEnd() {
        CHECK.says("before the next code of an entry (not before END)");
        for (int rule = 0; rule <= 2; rule++) {
            PaletteFrames x = Rows.rowOfCodes(8, Rows.mostEntries(8));
            x.rule(rule);
            x.encode();
            CHECK.due("CLEARs with rule " + rule, x.coded(1), 1);
            CHECK.due("END", Bits.codeOf(x, Rows.bitsOf(8, Rows.mostEntries(8)), 12), 257);
        }
    }

    private static void ruleTwoSixtyFourCodes() {
        CHECK.says("of the codes written since there is one (..) there are 64");
        CHECK.due("one CLEAR behind 63 and one code", clearsBehind(pieces(63, 1), 1), 1);
        CHECK.due("one CLEAR behind 64 codes and END", clearsBehind(pieces(64, 1), 0), 1);
        CHECK.due("two CLEARs behind 64 and one code", clearsBehind(pieces(64, 1), 1), 2);
        CHECK.due("two CLEARs behind 64 and ten codes", clearsBehind(pieces(64, 1), 10), 2);
    }

    private static void ruleTwoLessThan256Symbols() {
        CHECK.says("if these stand for less symbols than 256");
        CHECK.due("256 symbols", clearsBehind(pieces(64, 4), 1), 1);
        int[] less = pieces(64, 4);
        less[63] = 3;
        CHECK.due("255 symbols, the last code for three", clearsBehind(less, 1), 2);
        less[63] = 4;
        less[0] = 3;
        CHECK.due("255 symbols, the first code for three", clearsBehind(less, 1), 2);
        CHECK.due("255 symbols and END", clearsBehind(less, 0), 1);
        CHECK.due("64 symbols", clearsBehind(pieces(64, 1), 1), 2);
    }

    private static void ruleTwoSinceTheLatestLook() {
        CHECK.says("or since the latest such look, that did not clear");
        int[] twice = pieces(128, 4);
        CHECK.due("256 symbols, and 256", clearsBehind(twice, 1), 1);
        twice[127] = 3;
        CHECK.due("256 symbols, and 255", clearsBehind(twice, 1), 2);
        CHECK.due("256 symbols, and 255 and END", clearsBehind(twice, 0), 1);
        twice[127] = 4;
        twice[64] = 3;
        CHECK.due("256 symbols, and 255, the first code for three", clearsBehind(twice, 1), 2);
        CHECK.due("256 symbols, 256, and 64", clearsBehind(pieces(128, 4), 64), 1);
        CHECK.due("256 symbols, 256, and 64, and one", clearsBehind(pieces(128, 4), 65), 2);
        CHECK.due("256 symbols, and 63 codes, and END", clearsBehind(pieces(64, 4), 63), 1);
    }

    private static int[] pieces(int many, int symbols) {
        int[] all = new int[many];
        Arrays.fill(all, symbols);
        return all;
    }

    /** The CLEARs with rule 2, a full table, and a code for each piece, of so many symbols, and for each single one. */
    private static int clearsBehind(int[] pieces, int singles) {
        PaletteFrames x = Rows.filledExactly(1);
        for (int i = 0; i < pieces.length; i++) {
            x.put(i % 2 == 0 ? 5 : 9, 0, pieces[i]);
        }
        if (singles > 0) {
            x.put(101, 2, singles);
        }
        x.encode();
        CHECK.due("codes of the pieces", x.coded(0), 1 + 3838 + pieces.length + singles + 1);
        x.rule(2);
        x.encode();
        return x.coded(1);
    }

    private static void ruleTwoBehindItsClear() {
        CHECK.says("of the codes written since there is one (..) there are 64");
        int most = Rows.mostEntries(8);
        // The table has to fill once more behind the first CLEAR, and 64 codes to come.
        for (int round = 1; round <= 3; round++) {
            int many = round * (most + 64);
            PaletteFrames x = rowOfPairs(many);
            x.rule(2);
            x.encode();
            codedDue(x, many + round + 1, round, 12, most);
            PaletteFrames y = rowOfPairs(many + 1);
            y.rule(2);
            y.encode();
            codedDue(y, many + round + 3, round + 1, 9, 0);
        }
    }

    /** No pair of symbols comes twice in it, so that each symbol is a code. */
    private static PaletteFrames rowOfPairs(int many) {
        PaletteFrames x = new PaletteFrames(8);
        for (int i = 0; i * 256 < many; i++) {
            x.put(0, 4 * i + 1, Math.min(256, many - i * 256));
        }
        return x;
    }

    private static void widthsAtFirstAndBehindClear() {
        CHECK.says("codes have L + 1 bits at first, and behind each CLEAR");
        for (int least = 5; least <= 8; least++) {
            int most = Rows.mostEntries(least);
            int clear = 1 << least;
            PaletteFrames x = Rows.fillingRow(least);
            x.rule(0);
            int bytes = x.encode();
            int from = Rows.bitsOf(least, most);
            CHECK.due("the first code, L " + least, Bits.codeOf(x, 0, least + 1), clear);
            CHECK.due("CLEAR has 12 bits itself, L " + least, Bits.codeOf(x, from, 12), clear);
            CHECK.due("END, L " + least, Bits.codeOf(x, from + 12 + least + 1, least + 1), clear + 1);
            CHECK.due("bytes, L " + least, bytes, (from + 12 + 2 * (least + 1) + 7) / 8);
        }
    }

    private static void widthsGrowAtTheirCode() {
        CHECK.says("Behind the k-th code of an entry since then, if 2^L + 1 + k is 2^w, w being the width, below 12, it is one more");
        for (int least = 2; least <= 8; least++) {
            for (int width = least + 1; width < 12; width++) {
                int k = (1 << width) - (1 << least) - 1;
                endDue(least, k - 1, width);
                endDue(least, k, width + 1);
                endDue(least, k + 1, width + 1);
            }
        }
    }

    private static void widthTwelveStays() {
        CHECK.says("w being the width, below 12");
        for (int least = 5; least <= 8; least++) {
            int k = 4096 - (1 << least) - 1;
            endDue(least, k - 1, 12);
            endDue(least, k, 12);
            endDue(least, k + 1, 12);
        }
    }

    private static void endDue(int least, int k, int width) {
        PaletteFrames x = Rows.rowOfCodes(least, k);
        int bits = Rows.bitsOf(least, k);
        CHECK.due("encode() of " + k + " codes, L " + least, x.encode(), (bits + width + 7) / 8);
        codedDue(x, k + 2, 1, width, Math.min(k - 1, Rows.mostEntries(least)));
        CHECK.due("END behind " + k + " codes, L " + least, Bits.codeOf(x, bits, width), (1 << least) + 1);
    }

    private static void lastByteIsFilledWithZero() {
        CHECK.says("the last byte is filled with 0");
        boolean[] rests = new boolean[8];
        for (int least = 2; least <= 8; least++) {
            for (int n = 0; n <= 24; n++) {
                PaletteFrames x = new PaletteFrames(least);
                if (n > 0) {
                    x.put(-1, 0, n);
                }
                int bytes = x.encode();
                int bits = Rows.bitsOf(least, x.coded(0) - 2) + x.coded(2);
                CHECK.due("bytes of " + n + ", L " + least, bytes, (bits + 7) / 8);
                CHECK.due("END of " + n + ", L " + least, Bits.codeOf(x, bits - x.coded(2), x.coded(2)), (1 << least) + 1);
                CHECK.due("the rest of " + n + ", L " + least, Bits.codeOf(x, bits, bytes * 8 - bits), 0);
                rests[bits % 8] = true;
            }
        }
        for (int i = 0; i < 8; i++) {
            CHECK.due("a last byte of " + i + " bits was there", rests[i] ? 1 : 0, 1);
        }
    }

    private static void fullRowOfTheWidestCodes() {
        CHECK.says("The row is coded: how many bytes that is");
        PaletteFrames x = rowOfPairs(12000);
        x.rule(1);
        CHECK.due("told(1)", x.told(1), 12000);
        int bytes = x.encode();
        codedDue(x, 12002, 1, 12, Rows.mostEntries(8));
        CHECK.due("encode()", bytes, (Rows.bitsOf(8, 12000) + 12 + 7) / 8);
        CHECK.due("END", Bits.codeOf(x, Rows.bitsOf(8, 12000), 12), 257);
        CHECK.badIndex("byteAt behind the last", () -> x.byteAt(bytes));
        CHECK.due("pass(0, most)", x.pass(0, MOST), bytes);
        CHECK.due("decode()", x.decode(), 12000);
        CHECK.due("at(11999)", x.at(11999), (11999 - 46 * 256) * (4 * 46 + 1) & 255);
    }

    private static void bytesOfWhatWasCodedLast() {
        CHECK.says("Byte i of what was coded last");
        PaletteFrames x = new PaletteFrames(2);
        CHECK.badIndex("byteAt(0) before", () -> x.byteAt(0));
        x.put(1, 0, 20);
        CHECK.badIndex("byteAt(0) of a row that is not coded", () -> x.byteAt(0));
        CHECK.due("encode()", x.encode(), 4);
        for (int wrong : new int[] {-1, 4, 5, LEAST, MOST}) {
            CHECK.badIndex("byteAt(" + wrong + ")", () -> x.byteAt(wrong));
        }
        int[] first = {x.byteAt(0), x.byteAt(1), x.byteAt(2), x.byteAt(3)};
        x.put(3, 0, 1000);
        x.rule(2);
        x.pass(0, 4);
        x.decode();
        x.frame(0, 0, 24, 24, false, 0, 0);
        for (int i = 0; i < 4; i++) {
            CHECK.due("byteAt(" + i + ") behind other calls", x.byteAt(i), first[i]);
        }
        x.clear();
        CHECK.badIndex("byteAt(0) behind clear", () -> x.byteAt(0));
        x.encode();
        CHECK.due("byteAt(0) of the empty row", x.byteAt(0), 4 + 8 * 5);
        CHECK.badIndex("byteAt(1) of the empty row", () -> x.byteAt(1));
    }

    private static void codedBeforeAndOfAnotherWhat() {
        CHECK.says("NONE for another what; all 0 before");
        PaletteFrames x = new PaletteFrames(2);
        x.put(1, 0, 20);
        codedDue(x, 0, 0, 0, 0);
        x.encode();
        codedDue(x, 8, 1, 4, 5);
        for (int other : new int[] {-1, 4, 5, LEAST, MOST}) {
            CHECK.due("coded(" + other + ")", x.coded(other), -1);
            CHECK.due("coded(" + other + ") before", new PaletteFrames(2).coded(other), -1);
        }
        x.clear();
        codedDue(x, 0, 0, 0, 0);
    }

    /** The whole of what is coded, with the widths that the document asks for codes behind one CLEAR. */
    private static void codesDue(PaletteFrames x, int... codes) {
        Bits bits = new Bits();
        for (int i = 0; i < codes.length; i++) {
            bits.code(codes[i], i == 0 ? x.told(0) + 1 : Rows.widthBehind(x.told(0), i - 1));
        }
        int[] bytes = bits.bytes();
        CHECK.due("encode()", x.encode(), bytes.length);
        for (int i = 0; i < bytes.length; i++) {
            CHECK.due("byteAt(" + i + ")", x.byteAt(i), bytes[i]);
        }
    }

    private static void codedDue(PaletteFrames x, int... due) {
        for (int i = 0; i < due.length; i++) {
            CHECK.due("coded(" + i + "), L " + x.told(0), x.coded(i), due[i]);
        }
    }
}
