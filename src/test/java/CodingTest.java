/** Promises 1 to 6: the new object, the row, the rule, and the coding. */
public final class CodingTest {
    private static final Check CHECK = new Check("CodingTest");

    public static void main(String[] args) {
        aNewObject();
        putMakesSymbols();
        putRefuses();
        ruleAnswersTheOneBefore();
        encodeOfAnEmptyRow();
        encodeByHand();
        widthGrowsAlsoBehindTheLastEntry();
        codedBeforeAndAfter();
        byteAtEdges();
        ruleZeroClearsWhenFull();
        ruleOneNeverClears();
        eachEncodeCountsAnew();
        CHECK.finish();
    }

    private static void aNewObject() {
        int[] asked = {Integer.MIN_VALUE, -1, 0, 1, 2, 3, 4, 5, 6, 7, 8, 9, 99, Integer.MAX_VALUE};
        int[] due = {2, 2, 2, 2, 2, 3, 4, 5, 6, 7, 8, 8, 8, 8};
        for (int i = 0; i < asked.length; i++) {
            PaletteFrames x = new PaletteFrames(asked[i]);
            CHECK.due("told(0) for " + asked[i], x.told(0), due[i]);
            CHECK.due("told(1) for " + asked[i], x.told(1), 0);
        }
        CHECK.due("NONE", PaletteFrames.NONE, -1);
    }

    private static void putMakesSymbols() {
        rowDue(3, 6, 1, 4, 6, 7, 0, 1);
        rowDue(3, 1, -1, 4, 1, 0, 7, 6);
        rowDue(2, -5, 0, 2, 3, 3);
        rowDue(2, Integer.MAX_VALUE, 1, 3, 3, 0, 1);
        rowDue(8, Integer.MIN_VALUE, Integer.MIN_VALUE, 3, 0, 0, 0);
        rowDue(8, Integer.MIN_VALUE, -1, 3, 0, 255, 254);
        rowDue(8, 255, Integer.MAX_VALUE, 3, 255, 254, 253);
    }

    private static void rowDue(int least, int v, int step, int n, int... symbols) {
        PaletteFrames x = new PaletteFrames(least);
        String call = "put(" + v + ", " + step + ", " + n + ")";
        CHECK.due(call, x.put(v, step, n), n);
        CHECK.due("frame behind " + call, x.frame(0, 0, n, 1, false, 0, 0), 0);
        for (int i = 0; i < n; i++) {
            CHECK.due("symbol " + i + " of " + call, x.symbol(0, i, 0), symbols[i]);
        }
    }

    private static void putRefuses() {
        PaletteFrames x = new PaletteFrames(4);
        CHECK.badArgument("put n 0", () -> x.put(1, 1, 0));
        CHECK.badArgument("put n -1", () -> x.put(1, 1, -1));
        CHECK.badArgument("put n 1001", () -> x.put(1, 1, 1001));
        CHECK.badArgument("put n least", () -> x.put(1, 1, Integer.MIN_VALUE));
        CHECK.badArgument("put n most", () -> x.put(1, 1, Integer.MAX_VALUE));
        CHECK.due("row", x.told(1), 0);
        for (int i = 1; i < 12; i++) {
            x.put(i, 3, 1000);
        }
        CHECK.due("put 999", x.put(1, 3, 999), 11999);
        CHECK.tooMany("put 2 at 11999", () -> x.put(1, 1, 2));
        CHECK.due("row", x.told(1), 11999);
        CHECK.due("put 1 at 11999", x.put(1, 1, 1), 12000);
        CHECK.tooMany("put 1 at 12000", () -> x.put(1, 1, 1));
        CHECK.badArgument("put 0 at 12000", () -> x.put(1, 1, 0));
        CHECK.badArgument("put 1001 at 12000", () -> x.put(1, 1, 1001));
        CHECK.due("row", x.told(1), 12000);
    }

    private static void ruleAnswersTheOneBefore() {
        PaletteFrames x = new PaletteFrames(4);
        CHECK.badArgument("rule(-1)", () -> x.rule(-1));
        CHECK.badArgument("rule(3)", () -> x.rule(3));
        CHECK.due("rule(1)", x.rule(1), 0);
        CHECK.badArgument("rule(4)", () -> x.rule(4));
        CHECK.due("rule(2)", x.rule(2), 1);
        CHECK.due("rule(2)", x.rule(2), 2);
        CHECK.due("rule(0)", x.rule(0), 2);
        CHECK.due("rule(0)", x.rule(0), 0);
    }

    private static void encodeOfAnEmptyRow() {
        for (int least = 2; least <= 8; least++) {
            PaletteFrames x = new PaletteFrames(least);
            int clear = 1 << least;
            bytesDue("the empty row of " + least, x,
                    new Bits().code(clear, least + 1).code(clear + 1, least + 1));
            codedDue("the empty row of " + least, x, 2, 1, least + 1, 0);
        }
    }

    private static void encodeByHand() {
        PaletteFrames x = new PaletteFrames(2);
        x.put(1, 0, 6);
        x.put(2, 0, 1);
        x.put(1, 0, 3);
        // 1, 11, 111, then 2, and 111 once more; the third code of an entry makes entry 8.
        bytesDue("1111112111", x, new Bits().code(4, 3).code(1, 3).code(6, 3).code(7, 3)
                .code(2, 4).code(7, 4).code(5, 4));
        codedDue("1111112111", x, 7, 1, 4, 4);
        CHECK.due("the row stays", x.told(1), 10);
    }

    private static void widthGrowsAlsoBehindTheLastEntry() {
        PaletteFrames x = new PaletteFrames(2);
        x.put(0, 1, 3);
        // The third code makes no entry, as no symbol is left, but the width grows behind it.
        bytesDue("012", x, new Bits().code(4, 3).code(0, 3).code(1, 3).code(2, 3).code(5, 4));
        codedDue("012", x, 5, 1, 4, 2);
        PaletteFrames y = new PaletteFrames(2);
        y.put(0, 1, 2);
        bytesDue("01", y, new Bits().code(4, 3).code(0, 3).code(1, 3).code(5, 3));
        codedDue("01", y, 4, 1, 3, 1);
    }

    private static void bytesDue(String what, PaletteFrames x, Bits due) {
        int[] bytes = due.bytes();
        CHECK.due("encode() of " + what, x.encode(), bytes.length);
        for (int i = 0; i < bytes.length; i++) {
            CHECK.due("byteAt(" + i + ") of " + what, x.byteAt(i), bytes[i]);
        }
    }

    private static void codedDue(String what, PaletteFrames x, int... due) {
        for (int i = 0; i < due.length; i++) {
            CHECK.due("coded(" + i + ") of " + what, x.coded(i), due[i]);
        }
    }

    private static void codedBeforeAndAfter() {
        PaletteFrames x = new PaletteFrames(5);
        x.put(1, 1, 9);
        codedDue("nothing", x, 0, 0, 0, 0, -1, -1);
        CHECK.due("coded(-1)", x.coded(-1), -1);
        x.encode();
        codedDue("nine", x, 11, 1, 6, 8, -1, -1);
        CHECK.due("coded(-1)", x.coded(-1), -1);
        x.put(1, 1, 9);
        codedDue("nine, with more in the row", x, 11, 1, 6, 8, -1, -1);
        x.clear();
        codedDue("nothing again", x, 0, 0, 0, 0, -1, -1);
    }

    private static void byteAtEdges() {
        PaletteFrames x = new PaletteFrames(2);
        CHECK.badIndex("byteAt(0) at first", () -> x.byteAt(0));
        x.put(3, 1, 500);
        int many = x.encode();
        CHECK.badIndex("byteAt(-1)", () -> x.byteAt(-1));
        CHECK.badIndex("byteAt(least)", () -> x.byteAt(Integer.MIN_VALUE));
        CHECK.badIndex("byteAt(many)", () -> x.byteAt(many));
        CHECK.badIndex("byteAt(most)", () -> x.byteAt(Integer.MAX_VALUE));
        CHECK.due("byteAt(0)", x.byteAt(0), 28);
        x.take();
        CHECK.due("a shorter one", x.encode(), 1);
        CHECK.badIndex("byteAt(1) of the shorter one", () -> x.byteAt(1));
    }

    private static void ruleZeroClearsWhenFull() {
        PaletteFrames x = Rows.filledExactly(0);
        x.encode();
        CHECK.due("no CLEAR before END", x.coded(1), 1);
        CHECK.due("one entry is missing", x.coded(3), 3837);
        x.put(5, 0, 1);
        x.encode();
        CHECK.due("a CLEAR as soon as there is an entry 4095", x.coded(1), 2);
        CHECK.due("codes with it", x.coded(0), 1 + 3838 + 1 + 1 + 1);
        CHECK.due("entries behind it", x.coded(3), 0);
        CHECK.due("the width behind it", x.coded(2), 9);
    }

    private static void ruleOneNeverClears() {
        PaletteFrames x = Rows.filledExactly(1);
        for (int i = 0; i < 5; i++) {
            x.put(5, 2, 1000);
        }
        x.encode();
        CHECK.due("one CLEAR", x.coded(1), 1);
        CHECK.due("all entries", x.coded(3), 3838);
        CHECK.due("the width", x.coded(2), 12);
    }

    private static void eachEncodeCountsAnew() {
        PaletteFrames x = Rows.filledExactly(1);
        x.put(101, 2, 60);
        x.encode();
        x.rule(2);
        for (int i = 0; i < 3; i++) {
            x.encode();
            CHECK.due("60 poor codes, time " + i, x.coded(1), 1);
        }
        x.put(5, 0, 5);
        x.encode();
        CHECK.due("62 poor codes", x.coded(1), 1);
    }
}
