/** Promises 12 to 18: frames, colours, what is shown, and when. */
public final class FramesTest {
    private static final Check CHECK = new Check("FramesTest");
    private static final int MOST = Integer.MAX_VALUE;
    private static final int LEAST = Integer.MIN_VALUE;

    public static void main(String[] args) {
        frameRefusesArguments();
        frameRefusesInOrder();
        frameTakesFromTheRow();
        interlacedRows();
        colourAnswersItsOwn();
        colourRefuses();
        throughAnswersTheOneBefore();
        shownEnds();
        shownClearThrough();
        shownBeforeItsEndOnly();
        shownRefuses();
        symbolRefuses();
        whenGoesRound();
        whenEdges();
        passOfRows();
        CHECK.finish();
    }

    private static void frameRefusesArguments() {
        PaletteFrames x = new PaletteFrames(2);
        x.put(0, 1, 1000);
        int[][] wrong = {
            {0, 0, 0, 1, 0, 0}, {0, 0, 1, 0, 0, 0}, {0, 0, 25, 1, 0, 0}, {0, 0, 1, 25, 0, 0},
            {0, 0, -1, 1, 0, 0}, {0, 0, 1, -1, 0, 0}, {-1, 0, 1, 1, 0, 0}, {0, -1, 1, 1, 0, 0},
            {24, 0, 1, 1, 0, 0}, {0, 24, 1, 1, 0, 0}, {1, 0, 24, 1, 0, 0}, {0, 1, 1, 24, 0, 0},
            {20, 0, 5, 1, 0, 0}, {0, 20, 1, 5, 0, 0}, {MOST, 0, 1, 1, 0, 0}, {0, MOST, 1, 1, 0, 0},
            {MOST, 0, 24, 1, 0, 0}, {0, 0, MOST, 1, 0, 0}, {0, 0, 1, LEAST, 0, 0}, {LEAST, 0, 1, 1, 0, 0},
            {0, 0, 65536, 65536, 0, 0},
            {0, 0, 1, 1, -1, 0}, {0, 0, 1, 1, 4, 0}, {0, 0, 1, 1, 0, -1}, {0, 0, 1, 1, 0, 1001},
        };
        for (int[] w : wrong) {
            CHECK.badArgument("frame of " + java.util.Arrays.toString(w),
                    () -> x.frame(w[0], w[1], w[2], w[3], false, w[4], w[5]));
        }
        CHECK.due("told(4)", x.told(4), 0);
        CHECK.due("told(1)", x.told(1), 1000);
        CHECK.due("a whole screen", x.frame(0, 0, 24, 24, false, 3, 1000), 0);
        CHECK.due("the last corner", x.frame(23, 23, 1, 1, true, 0, 0), 1);
        CHECK.due("told(1)", x.told(1), 1000 - 577);
    }

    private static void frameRefusesInOrder() {
        PaletteFrames x = new PaletteFrames(2);
        CHECK.badState("frame of no row", () -> x.frame(0, 0, 1, 1, false, 0, 0));
        CHECK.badArgument("a wrong frame of no row", () -> x.frame(0, 0, 1, 1, false, 4, 0));
        x.put(1, 1, 23);
        CHECK.badState("24 of 23", () -> x.frame(0, 0, 4, 6, false, 0, 0));
        CHECK.due("told(1)", x.told(1), 23);
        for (int i = 0; i < 12; i++) {
            CHECK.due("frame " + i, x.frame(i, 0, 1, 1, false, 0, 1), i);
        }
        CHECK.due("told(1)", x.told(1), 11);
        CHECK.tooMany("a 13th frame", () -> x.frame(0, 0, 1, 1, false, 0, 0));
        CHECK.tooMany("a 13th frame of all", () -> x.frame(0, 0, 11, 1, false, 0, 0));
        CHECK.badState("a 13th frame of too many", () -> x.frame(0, 0, 12, 1, false, 0, 0));
        CHECK.badArgument("a wrong 13th frame", () -> x.frame(0, 0, 12, 1, false, 0, -1));
        CHECK.due("told(1)", x.told(1), 11);
        CHECK.due("told(4)", x.told(4), 12);
    }

    private static void frameTakesFromTheRow() {
        PaletteFrames x = new PaletteFrames(4);
        x.put(0, 1, 16);
        x.frame(0, 0, 3, 2, false, 0, 0);
        x.frame(5, 5, 2, 5, false, 0, 0);
        for (int i = 0; i < 6; i++) {
            CHECK.due("symbol " + i + " of frame 0", x.symbol(0, i % 3, i / 3), i);
        }
        for (int i = 0; i < 10; i++) {
            CHECK.due("symbol " + i + " of frame 1", x.symbol(1, i % 2, i / 2), 6 + i);
        }
        CHECK.due("told(1)", x.told(1), 0);
    }

    private static void interlacedRows() {
        int[] order = {0, 8, 16, 4, 12, 20, 2, 6, 10, 14, 18, 22, 1, 3, 5, 7, 9, 11, 13, 15, 17, 19, 21, 23};
        for (int height = 1; height <= 24; height++) {
            PaletteFrames x = new PaletteFrames(6);
            x.put(0, 1, 2 * height);
            x.frame(0, 0, 2, height, true, 0, 0);
            int next = 0;
            for (int y : order) {
                if (y < height) {
                    CHECK.due("row " + y + " of " + height, x.symbol(0, 0, y), next);
                    CHECK.due("row " + y + " of " + height, x.symbol(0, 1, y), next + 1);
                    next += 2;
                }
            }
        }
    }

    private static void colourAnswersItsOwn() {
        PaletteFrames x = new PaletteFrames(2);
        x.put(3, 0, 2);
        x.frame(0, 0, 1, 1, false, 0, 0);
        x.frame(1, 0, 1, 1, false, 0, 0);
        CHECK.due("no colour", x.shown(1, 0, 0), -1);
        CHECK.due("the screen's", x.colour(-1, 3, 16777215), -1);
        CHECK.due("frame 0's", x.colour(0, 3, 0), -1);
        CHECK.due("frame 0 shows its own", x.shown(1, 0, 0), 0);
        CHECK.due("frame 1 shows the screen's", x.shown(1, 1, 0), 16777215);
        CHECK.due("frame 0's goes", x.colour(0, 3, -1), 0);
        CHECK.due("frame 0's went", x.colour(0, 3, -1), -1);
        CHECK.due("frame 0 shows the screen's", x.shown(1, 0, 0), 16777215);
        CHECK.due("the screen's goes", x.colour(-1, 3, -1), 16777215);
        CHECK.due("no colour", x.shown(1, 0, 0), -1);
        CHECK.due("another symbol's", x.colour(-1, 2, 5), -1);
        CHECK.due("no colour", x.shown(1, 0, 0), -1);
        x.put(3, 0, 1);
        x.frame(0, 0, 1, 1, false, 0, 0);
        CHECK.due("a new frame has none", x.colour(2, 3, 1), -1);
    }

    private static void colourRefuses() {
        PaletteFrames x = new PaletteFrames(2);
        x.put(3, 0, 1);
        CHECK.badIndex("colour of frame 0", () -> x.colour(0, 0, 0));
        x.frame(0, 0, 1, 1, false, 0, 0);
        CHECK.badIndex("colour of frame 1", () -> x.colour(1, 0, 0));
        CHECK.badIndex("colour of frame -2", () -> x.colour(-2, 0, 0));
        CHECK.badIndex("colour of frame most", () -> x.colour(MOST, 0, 0));
        CHECK.badIndex("colour of symbol 4", () -> x.colour(0, 4, 0));
        CHECK.badIndex("colour of symbol -1", () -> x.colour(0, -1, 0));
        CHECK.badIndex("the screen's colour of symbol 4", () -> x.colour(-1, 4, 0));
        CHECK.badIndex("a wrong colour of symbol 4", () -> x.colour(0, 4, -2));
        CHECK.badIndex("a wrong colour of frame 1", () -> x.colour(1, 0, 16777216));
        CHECK.badArgument("colour -2", () -> x.colour(0, 0, -2));
        CHECK.badArgument("colour 16777216", () -> x.colour(0, 0, 16777216));
        CHECK.badArgument("the screen's colour least", () -> x.colour(-1, 0, LEAST));
        CHECK.due("none was set", x.colour(0, 0, 7), -1);
        CHECK.due("none was set", x.colour(-1, 0, 7), -1);
    }

    private static void throughAnswersTheOneBefore() {
        PaletteFrames x = new PaletteFrames(2);
        x.put(3, 0, 2);
        CHECK.badIndex("through(0, -1)", () -> x.through(0, -1));
        x.frame(0, 0, 1, 1, false, 0, 0);
        CHECK.due("through(0, 3)", x.through(0, 3), -1);
        CHECK.due("through(0, 0)", x.through(0, 0), 3);
        CHECK.badIndex("through(0, 4)", () -> x.through(0, 4));
        CHECK.badIndex("through(0, -2)", () -> x.through(0, -2));
        CHECK.badIndex("through(-1, 0)", () -> x.through(-1, 0));
        CHECK.badIndex("through(1, 0)", () -> x.through(1, 0));
        CHECK.due("through(0, -1)", x.through(0, -1), 0);
        CHECK.due("through(0, -1)", x.through(0, -1), -1);
        x.through(0, 2);
        x.frame(0, 0, 1, 1, false, 0, 0);
        CHECK.due("a new frame has none", x.through(1, 1), -1);
        CHECK.due("each has its own", x.through(0, 1), 2);
    }

    /** Frames over one another at 0, 0; symbol k + 1 is frame k's, and its colour the symbol. */
    private static PaletteFrames pile(int... ends) {
        PaletteFrames x = new PaletteFrames(4);
        for (int i = 0; i < ends.length; i++) {
            x.put(i + 1, 0, 4);
            x.colour(-1, i + 1, i + 1);
            x.frame(0, 0, 2, 2, false, ends[i], 1);
        }
        return x;
    }

    private static void shownEnds() {
        for (int end = 0; end <= 3; end++) {
            PaletteFrames x = pile(0, end);
            x.put(3, 0, 1);
            x.colour(-1, 3, 3);
            x.frame(5, 5, 1, 1, false, 0, 1);
            CHECK.due("before a frame of end " + end, x.shown(0, 0, 0), 1);
            CHECK.due("behind a frame of end " + end, x.shown(1, 0, 0), 2);
            CHECK.due("behind the next one of end " + end, x.shown(2, 0, 0), end < 2 ? 2 : end == 2 ? -1 : 1);
            CHECK.due("beside a frame of end " + end, x.shown(2, 2, 0), -1);
            CHECK.due("the next one", x.shown(2, 5, 5), 3);
        }
        PaletteFrames deep = pile(3, 3, 2, 3, 0);
        deep.through(4, 5);
        CHECK.due("all taken away", deep.shown(4, 1, 1), -1);
        PaletteFrames back = pile(1, 3, 3, 3, 0);
        back.through(4, 5);
        CHECK.due("back to the first", back.shown(4, 1, 1), 1);
    }

    private static void shownClearThrough() {
        PaletteFrames x = pile(0, 0);
        x.through(1, 2);
        CHECK.due("the one below", x.shown(1, 0, 0), 1);
        x.through(1, 1);
        CHECK.due("another symbol is clear-through", x.shown(1, 0, 0), 2);
        x.colour(-1, 2, -1);
        CHECK.due("a symbol without a colour covers", x.shown(1, 0, 0), -1);
        PaletteFrames y = pile(0, 2, 0);
        y.through(1, 2);
        y.through(2, 3);
        CHECK.due("end 2 takes its whole place away", y.shown(2, 0, 0), -1);
        CHECK.due("but not before the next one", y.shown(1, 0, 0), 1);
        PaletteFrames z = pile(0, 3, 0);
        z.through(1, 2);
        z.through(2, 3);
        CHECK.due("end 3 of one that is clear-through", z.shown(2, 0, 0), 1);
    }

    private static void shownBeforeItsEndOnly() {
        PaletteFrames x = new PaletteFrames(2);
        x.put(1, 1, 3);
        for (int i = 0; i < 3; i++) {
            x.colour(-1, i + 1, 10 * (i + 1));
        }
        x.frame(23, 22, 1, 1, false, 2, 0);
        x.frame(22, 23, 1, 1, false, 3, 0);
        CHECK.due("x before y", x.shown(0, 23, 22), 10);
        CHECK.due("not y before x", x.shown(0, 22, 23), -1);
        CHECK.due("frame 0 went", x.shown(1, 23, 22), -1);
        CHECK.due("frame 1 came", x.shown(1, 22, 23), 20);
        CHECK.due("frame 0 still", x.shown(0, 23, 22), 10);
    }

    private static void shownRefuses() {
        PaletteFrames x = new PaletteFrames(2);
        CHECK.badIndex("shown(0, 0, 0)", () -> x.shown(0, 0, 0));
        CHECK.badIndex("shown(-1, 0, 0)", () -> x.shown(-1, 0, 0));
        x.put(1, 1, 1);
        x.frame(0, 0, 1, 1, false, 0, 0);
        CHECK.badIndex("shown(-1, 0, 0)", () -> x.shown(-1, 0, 0));
        CHECK.badIndex("shown(1, 0, 0)", () -> x.shown(1, 0, 0));
        CHECK.badIndex("shown(0, -1, 0)", () -> x.shown(0, -1, 0));
        CHECK.badIndex("shown(0, 24, 0)", () -> x.shown(0, 24, 0));
        CHECK.badIndex("shown(0, 0, -1)", () -> x.shown(0, 0, -1));
        CHECK.badIndex("shown(0, 0, 24)", () -> x.shown(0, 0, 24));
        CHECK.badIndex("shown(0, most, least)", () -> x.shown(0, MOST, LEAST));
        CHECK.due("shown(0, 23, 23)", x.shown(0, 23, 23), -1);
    }

    private static void symbolRefuses() {
        PaletteFrames x = new PaletteFrames(3);
        x.put(0, 1, 6);
        CHECK.badIndex("symbol(0, 0, 0)", () -> x.symbol(0, 0, 0));
        x.frame(4, 5, 3, 2, false, 0, 0);
        CHECK.due("symbol(0, 2, 1)", x.symbol(0, 2, 1), 5);
        CHECK.badIndex("symbol(0, 3, 0)", () -> x.symbol(0, 3, 0));
        CHECK.badIndex("symbol(0, 0, 2)", () -> x.symbol(0, 0, 2));
        CHECK.badIndex("symbol(0, -1, 1)", () -> x.symbol(0, -1, 1));
        CHECK.badIndex("symbol(0, 0, -1)", () -> x.symbol(0, 0, -1));
        CHECK.badIndex("symbol(1, 0, 0)", () -> x.symbol(1, 0, 0));
        CHECK.badIndex("symbol(-1, 0, 0)", () -> x.symbol(-1, 0, 0));
        CHECK.badIndex("symbol(0, most, most)", () -> x.symbol(0, MOST, MOST));
        CHECK.badIndex("symbol(0, least, least)", () -> x.symbol(0, LEAST, LEAST));
    }

    private static PaletteFrames withDelays(int... delays) {
        PaletteFrames x = new PaletteFrames(2);
        for (int delay : delays) {
            x.put(0, 0, 1);
            x.frame(0, 0, 1, 1, false, 0, delay);
        }
        return x;
    }

    private static void whenGoesRound() {
        PaletteFrames x = withDelays(0, 2, 0, 3, 1, 0);
        int[] round = {1, 1, 3, 3, 3, 4};
        for (int time = 0; time < 40; time++) {
            for (int times = 0; times < 5; times++) {
                boolean over = times > 0 && time >= 6 * times;
                CHECK.due("when(" + time + ", " + times + ")", x.when(time, times), over ? 5 : round[time % 6]);
            }
        }
    }

    private static void whenEdges() {
        PaletteFrames none = new PaletteFrames(2);
        CHECK.due("no frames", none.when(0, 0), -1);
        CHECK.due("no frames", none.when(MOST, MOST), -1);
        CHECK.badArgument("when(-1, 0) of no frames", () -> none.when(-1, 0));
        CHECK.badArgument("when(0, -1) of no frames", () -> none.when(0, -1));
        PaletteFrames zero = withDelays(0, 0, 0);
        CHECK.due("delays of 0", zero.when(0, 0), 2);
        CHECK.due("delays of 0", zero.when(0, 1), 2);
        CHECK.due("delays of 0", zero.when(MOST, 0), 2);
        PaletteFrames x = withDelays(1000, 1000, 1000, 1000, 1000, 1000, 1000, 1000, 1000, 1000, 1000, 1000);
        CHECK.badArgument("when(-1, 0)", () -> x.when(-1, 0));
        CHECK.badArgument("when(0, -1)", () -> x.when(0, -1));
        CHECK.badArgument("when(least, least)", () -> x.when(LEAST, LEAST));
        // 2147483647 is 178956 rounds of 12000 and 11647 more.
        CHECK.due("when(most, 0)", x.when(MOST, 0), 11);
        CHECK.due("when(most - 11000, most)", x.when(MOST - 11000, MOST), 0);
        CHECK.due("when(most - 11000, 357914)", x.when(MOST - 11000, 357914), 0);
        CHECK.due("when(most - 11000, 178957)", x.when(MOST - 11000, 178957), 0);
        CHECK.due("when(most - 11000, 178956)", x.when(MOST - 11000, 178956), 11);
    }

    private static void passOfRows() {
        int[] due = {0, 3, 2, 3, 1, 3, 2, 3};
        for (int row = 0; row < 64; row++) {
            CHECK.due("passOf(" + row + ")", new PaletteFrames(2).passOf(row), due[row % 8]);
        }
        PaletteFrames x = new PaletteFrames(2);
        CHECK.due("passOf(most)", x.passOf(MOST), 3);
        CHECK.due("passOf(most - 3)", x.passOf(MOST - 3), 1);
        CHECK.due("passOf(most - 7)", x.passOf(MOST - 7), 0);
        CHECK.badArgument("passOf(-1)", () -> x.passOf(-1));
        CHECK.badArgument("passOf(-8)", () -> x.passOf(-8));
        CHECK.badArgument("passOf(least)", () -> x.passOf(LEAST));
    }
}
