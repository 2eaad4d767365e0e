import java.util.Arrays;

/** Promises 12 to 18, a test for each sentence that names a boundary case. */
public final class FrameEdgesTest {
    private static final Check CHECK = new Check("FrameEdgesTest");
    private static final int MOST = Integer.MAX_VALUE;
    private static final int LEAST = Integer.MIN_VALUE;

    public static void main(String[] args) {
        widthAndHeight();
        allOnTheScreen();
        sumsAndProductsThatWrapAround();
        endAndDelay();
        rowHasNotSoMany();
        firstSymbolsGo();
        twelveFrames();
        firstOfSeveral();
        interlacedRows();
        colourOfFrames();
        colourOfSymbols();
        colourNumbers();
        colourOfTheScreenWithoutFrames();
        ownColourBeforeTheScreens();
        throughFrames();
        throughSymbols();
        throughIsOneOfEachFrame();
        shownFrames();
        shownPlaces();
        shownAtTheBorders();
        shownWithoutColour();
        endsTakeAwayBeforeTheNextOne();
        endTwoOfAllItsPlace();
        endThreeOfWhatWasBefore();
        endOfTheFirstFrame();
        symbolPlaces();
        whenBelowZero();
        whenWithoutFrames();
        whenDelaysOfZero();
        whenEachForItsDelay();
        whenSoManyTimes();
        whenTimesWrapAround();
        passOfEdges();
        CHECK.finish();
    }

    private static PaletteFrames rowOf(int many) {
        PaletteFrames x = new PaletteFrames(2);
        for (int left = many; left > 0; left -= 1000) {
            x.put(1, 1, Math.min(left, 1000));
        }
        return x;
    }

    private static void frameRefused(PaletteFrames x, int... f) {
        CHECK.badArgument("frame of " + Arrays.toString(f), () -> x.frame(f[0], f[1], f[2], f[3], false, f[4], f[5]));
    }

    private static void widthAndHeight() {
        CHECK.says("IllegalArgument: width or height is not 1 .. 24");
        PaletteFrames x = rowOf(2000);
        for (int wrong : new int[] {LEAST, -24, -1, 0, 25, 26, MOST}) {
            frameRefused(x, 0, 0, wrong, 1, 0, 0);
            frameRefused(x, 0, 0, 1, wrong, 0, 0);
            frameRefused(x, 0, 0, wrong, wrong, 0, 0);
            frameRefused(x, 0, 0, 24, wrong, 0, 0);
            frameRefused(x, 5, 5, wrong, 2, 0, 0);
        }
        CHECK.due("told(1)", x.told(1), 2000);
        CHECK.due("1 by 1", x.frame(0, 0, 1, 1, false, 0, 0), 0);
        CHECK.due("24 by 1", x.frame(0, 0, 24, 1, false, 0, 0), 1);
        CHECK.due("1 by 24", x.frame(0, 0, 1, 24, true, 0, 0), 2);
        CHECK.due("24 by 24", x.frame(0, 0, 24, 24, true, 0, 0), 3);
        CHECK.due("told(1)", x.told(1), 2000 - 1 - 24 - 24 - 576);
        CHECK.badIndex("the second column of the narrow one", () -> x.symbol(2, 1, 0));
        CHECK.badIndex("the second row of the low one", () -> x.symbol(1, 0, 1));
    }

    private static void allOnTheScreen() {
        CHECK.says("IllegalArgument: .. it is not all on the screen");
        for (int side = 1; side <= 24; side++) {
            PaletteFrames x = rowOf(1000);
            frameRefused(x, -1, 0, side, 1, 0, 0);
            frameRefused(x, 0, -1, 1, side, 0, 0);
            frameRefused(x, 25 - side, 0, side, 1, 0, 0);
            frameRefused(x, 0, 25 - side, 1, side, 0, 0);
            frameRefused(x, 24, 0, side, 1, 0, 0);
            frameRefused(x, 0, 24, 1, side, 0, 0);
            frameRefused(x, -side, 0, side, 1, 0, 0);
            frameRefused(x, 0, -side, 1, side, 0, 0);
            CHECK.due("told(4)", x.told(4), 0);
            CHECK.due("up to the right side", x.frame(24 - side, 23, side, 1, false, 0, 0), 0);
            CHECK.due("up to the lower side", x.frame(23, 24 - side, 1, side, false, 0, 0), 1);
            CHECK.due("into the corner", x.frame(24 - side, 24 - side, side, Math.min(side, 20), false, 0, 0), 2);
        }
    }

    private static void sumsAndProductsThatWrapAround() {
        CHECK.says("IllegalArgument: .. it is not all on the screen");
        PaletteFrames x = rowOf(1000);
        for (int far : new int[] {LEAST, LEAST + 1, LEAST + 24, -1000, 1000, MOST - 24, MOST - 23, MOST - 1, MOST}) {
            for (int side : new int[] {1, 2, 23, 24}) {
                frameRefused(x, far, 0, side, 1, 0, 0);
                frameRefused(x, 0, far, 1, side, 0, 0);
            }
        }
        CHECK.says("IllegalArgument: width or height is not 1 .. 24");
        frameRefused(x, 0, 0, 65536, 65536, 0, 0);
        frameRefused(x, 0, 0, 1 << 30, 4, 0, 0);
        frameRefused(x, 0, 0, 4, 1 << 30, 0, 0);
        frameRefused(x, LEAST, 0, LEAST, 1, 0, 0);
        frameRefused(x, MOST, 0, LEAST, 1, 0, 0);
        frameRefused(x, 0, MOST, 1, LEAST + 2, 0, 0);
        frameRefused(x, 0, 0, -2, -3, 0, 0);
        CHECK.due("told(1)", x.told(1), 1000);
        CHECK.due("told(4)", x.told(4), 0);
    }

    private static void endAndDelay() {
        CHECK.says("IllegalArgument: .. the end is not 0 .. 3, or the delay not 0 .. 1000");
        PaletteFrames x = rowOf(1000);
        for (int wrong : new int[] {LEAST, -1, 4, 5, MOST}) {
            frameRefused(x, 0, 0, 1, 1, wrong, 0);
        }
        for (int wrong : new int[] {LEAST, -1, 1001, MOST}) {
            frameRefused(x, 0, 0, 1, 1, 0, wrong);
        }
        CHECK.due("told(4)", x.told(4), 0);
        for (int end = 0; end <= 3; end++) {
            CHECK.due("end " + end, x.frame(0, 0, 1, 1, false, end, 0), end);
        }
        CHECK.due("delay 1000", x.frame(0, 0, 1, 1, false, 0, 1000), 4);
        CHECK.due("when(999, 0)", x.when(999, 0), 4);
        CHECK.due("when(1000, 0)", x.when(1000, 0), 4);
    }

    private static void rowHasNotSoMany() {
        CHECK.says("IllegalState: the row has not so many");
        int[][] sides = {{1, 1}, {2, 1}, {1, 2}, {3, 5}, {24, 1}, {1, 24}, {24, 24}, {23, 24}};
        for (int[] s : sides) {
            int many = s[0] * s[1];
            PaletteFrames x = rowOf(many - 1);
            CHECK.badState("one too few for " + Arrays.toString(s), () -> x.frame(0, 0, s[0], s[1], false, 0, 0));
            CHECK.due("told(1)", x.told(1), many - 1);
            CHECK.due("told(4)", x.told(4), 0);
            x.put(2, 0, 1);
            CHECK.due("just so many for " + Arrays.toString(s), x.frame(0, 0, s[0], s[1], true, 0, 0), 0);
            CHECK.due("told(1)", x.told(1), 0);
            CHECK.badState("of the empty row", () -> x.frame(0, 0, 1, 1, false, 0, 0));
        }
    }

    private static void firstSymbolsGo() {
        CHECK.says("A new frame, of the first symbols of the row, which go from it: its number");
        PaletteFrames x = new PaletteFrames(8);
        x.put(0, 1, 256);
        CHECK.due("frame", x.frame(3, 4, 2, 3, false, 0, 0), 0);
        CHECK.due("frame", x.frame(3, 4, 1, 1, true, 0, 0), 1);
        CHECK.due("frame", x.frame(0, 0, 24, 10, false, 0, 0), 2);
        CHECK.due("told(1)", x.told(1), 9);
        CHECK.due("frame", x.frame(0, 0, 9, 1, false, 0, 0), 3);
        CHECK.due("told(1)", x.told(1), 0);
        CHECK.due("the first of frame 0", x.symbol(0, 0, 0), 0);
        CHECK.due("the last of frame 0", x.symbol(0, 1, 2), 5);
        CHECK.due("the only one of frame 1", x.symbol(1, 0, 0), 6);
        CHECK.due("the first of frame 2", x.symbol(2, 0, 0), 7);
        CHECK.due("the last of frame 2", x.symbol(2, 23, 9), 246);
        CHECK.due("the first of frame 3", x.symbol(3, 0, 0), 247);
        CHECK.due("the last of frame 3", x.symbol(3, 8, 0), 255);
        x.put(77, 0, 1000);
        CHECK.due("the last of frame 3 stays", x.symbol(3, 8, 0), 255);
    }

    private static PaletteFrames framesOf(int many) {
        PaletteFrames x = rowOf(1000);
        for (int i = 0; i < many; i++) {
            x.frame(i, 0, 1, 1, false, 0, 1);
        }
        return x;
    }

    private static void twelveFrames() {
        CHECK.says("FRAMES have numbers 0, 1, .., 12 at most");
        PaletteFrames x = framesOf(11);
        CHECK.due("the 12th", x.frame(11, 0, 1, 1, false, 0, 1), 11);
        CHECK.tooMany("the 13th", () -> x.frame(12, 0, 1, 1, false, 0, 1));
        CHECK.due("told(4)", x.told(4), 12);
        CHECK.due("told(1)", x.told(1), 988);
        CHECK.due("the last is there", x.symbol(11, 0, 0), 0);
        CHECK.badIndex("no frame 12", () -> x.symbol(12, 0, 0));
        CHECK.due("when(11, 0)", x.when(11, 0), 11);
        CHECK.due("when(12, 0)", x.when(12, 0), 0);
        x.clear();
        x.put(3, 0, 1);
        CHECK.due("the first behind clear", x.frame(0, 0, 1, 1, false, 0, 1), 0);
        CHECK.badIndex("no frame 1", () -> x.symbol(1, 0, 0));
    }

    private static void firstOfSeveral() {
        CHECK.says("Of several that a call names, the first one");
        PaletteFrames full = framesOf(12);
        frameRefused(full, 0, 0, 0, 1, 0, 0);
        frameRefused(full, 0, 0, 1, 1, 4, 0);
        frameRefused(full, 0, 0, 1, 1, 0, 1001);
        frameRefused(full, 24, 0, 1, 1, 0, 0);
        CHECK.tooMany("a 13th frame", () -> full.frame(0, 0, 1, 1, false, 0, 0));
        full.take();
        CHECK.badState("a 13th frame of the empty row", () -> full.frame(0, 0, 1, 1, false, 0, 0));
        frameRefused(full, 0, 0, 24, 24, -1, 0);
        frameRefused(full, -1, 0, 24, 24, 0, 0);
        PaletteFrames empty = new PaletteFrames(2);
        frameRefused(empty, 0, 0, 25, 1, 0, 0);
        frameRefused(empty, 0, 0, 1, 1, 0, -1);
        CHECK.badState("a frame of the empty row", () -> empty.frame(0, 0, 1, 1, false, 0, 0));
        CHECK.badIndex("a wrong colour, frame and symbol", () -> empty.colour(0, 4, -2));
        CHECK.badIndex("a wrong colour and frame", () -> empty.colour(0, 0, -2));
        CHECK.badIndex("a wrong colour and symbol", () -> empty.colour(-1, 4, -2));
        CHECK.badArgument("a wrong colour", () -> empty.colour(-1, 3, -2));
    }

    private static void interlacedRows() {
        CHECK.says("first rows 0, 8, 16 ..; then 4, 12, ..; then 2, 6, 10 ..; then 1, 3, 5 ..");
        int[][] starts = {{0, 8}, {4, 8}, {2, 4}, {1, 2}};
        for (int height = 1; height <= 24; height++) {
            PaletteFrames x = new PaletteFrames(8);
            x.put(0, 1, 3 * height);
            x.frame(21, 24 - height, 3, height, true, 0, 0);
            int next = 0;
            for (int[] pass : starts) {
                for (int y = pass[0]; y < height; y += pass[1]) {
                    CHECK.due("row " + y + " of " + height, x.symbol(0, 0, y), next);
                    CHECK.due("row " + y + " of " + height, x.symbol(0, 2, y), next + 2);
                    next += 3;
                }
            }
            CHECK.due("all rows", next, 3 * height);
        }
    }

    private static void colourOfFrames() {
        CHECK.says("IndexOutOfBounds: there is no such frame");
        PaletteFrames none = new PaletteFrames(2);
        for (int wrong : new int[] {LEAST, -2, 0, 1, 11, 12, MOST}) {
            CHECK.badIndex("colour of frame " + wrong, () -> none.colour(wrong, 0, 0));
        }
        PaletteFrames two = framesOf(2);
        for (int wrong : new int[] {LEAST, -2, 2, 3, 11, 12, MOST}) {
            CHECK.badIndex("colour of frame " + wrong, () -> two.colour(wrong, 0, 0));
        }
        PaletteFrames all = framesOf(12);
        for (int wrong : new int[] {LEAST, -2, 12, 13, MOST}) {
            CHECK.badIndex("colour of frame " + wrong, () -> all.colour(wrong, 0, 0));
        }
        for (int frame = -1; frame < 12; frame++) {
            CHECK.due("colour of frame " + frame, all.colour(frame, 0, frame + 20), -1);
        }
        for (int frame = -1; frame < 12; frame++) {
            CHECK.due("colour of frame " + frame, all.colour(frame, 0, 5), frame + 20);
        }
    }

    private static void colourOfSymbols() {
        CHECK.says("IndexOutOfBounds: there is no such .. symbol");
        for (int least = 2; least <= 8; least++) {
            PaletteFrames x = new PaletteFrames(least);
            x.put(-1, 0, 1);
            x.frame(0, 0, 1, 1, false, 0, 0);
            int many = 1 << least;
            for (int frame = -1; frame <= 0; frame++) {
                int of = frame;
                for (int wrong : new int[] {LEAST, -2, -1, many, many + 1, MOST}) {
                    CHECK.badIndex("symbol " + wrong + " of frame " + of, () -> x.colour(of, wrong, 1));
                }
                CHECK.due("symbol 0 of frame " + of, x.colour(of, 0, 1), -1);
                CHECK.due("the last symbol of frame " + of, x.colour(of, many - 1, 2), -1);
                CHECK.due("symbol 0 of frame " + of, x.colour(of, 0, 3), 1);
                CHECK.due("the last symbol of frame " + of, x.colour(of, many - 1, 4), 2);
            }
            CHECK.due("shown(0, 0, 0)", x.shown(0, 0, 0), 4);
        }
    }

    private static void colourNumbers() {
        CHECK.says("one of 0 .. 16777215, or (NONE) its own one is none: what it was itself. IllegalArgument: the colour");
        PaletteFrames x = framesOf(1);
        for (int frame = -1; frame <= 0; frame++) {
            int of = frame;
            for (int wrong : new int[] {LEAST, -16777216, -2, 16777216, 16777217, MOST}) {
                CHECK.badArgument("colour " + wrong + " of frame " + of, () -> x.colour(of, 1, wrong));
            }
            CHECK.due("shown before", x.shown(0, 0, 0), -1);
            CHECK.due("16777215 of frame " + of, x.colour(of, 1, 16777215), -1);
            CHECK.due("shown", x.shown(0, 0, 0), 16777215);
            CHECK.badArgument("16777216 of frame " + of, () -> x.colour(of, 1, 16777216));
            CHECK.due("0 of frame " + of, x.colour(of, 1, 0), 16777215);
            CHECK.due("shown", x.shown(0, 0, 0), 0);
            CHECK.due("none of frame " + of, x.colour(of, 1, -1), 0);
            CHECK.due("none of frame " + of, x.colour(of, 1, -1), -1);
            CHECK.due("shown", x.shown(0, 0, 0), -1);
        }
    }

    private static void colourOfTheScreenWithoutFrames() {
        CHECK.says("the screen's colour for these, which is at first none");
        PaletteFrames x = new PaletteFrames(2);
        CHECK.due("at first", x.colour(-1, 3, 8), -1);
        x.put(3, 0, 2);
        x.frame(0, 0, 2, 1, false, 0, 0);
        CHECK.due("shown(0, 0, 0)", x.shown(0, 0, 0), 8);
        CHECK.due("the frame's own", x.colour(0, 3, -1), -1);
        CHECK.due("the screen's", x.colour(-1, 3, 9), 8);
        CHECK.due("shown(0, 1, 0)", x.shown(0, 1, 0), 9);
        x.clear();
        CHECK.due("behind clear", x.colour(-1, 3, 8), -1);
    }

    private static void ownColourBeforeTheScreens() {
        CHECK.says("COLOURS of its own for some symbols; others have the screen's colour for these");
        PaletteFrames x = new PaletteFrames(2);
        x.put(0, 1, 4);
        x.put(0, 1, 4);
        x.frame(0, 0, 4, 1, false, 0, 0);
        x.frame(0, 1, 4, 1, false, 0, 0);
        x.colour(-1, 0, 100);
        x.colour(-1, 1, 101);
        x.colour(0, 1, 0);
        x.colour(0, 2, 202);
        int[][] due = {{100, 0, 202, -1}, {100, 101, -1, -1}};
        for (int y = 0; y < 2; y++) {
            for (int i = 0; i < 4; i++) {
                CHECK.due("shown(1, " + i + ", " + y + ")", x.shown(1, i, y), due[y][i]);
            }
        }
    }

    private static void throughFrames() {
        CHECK.says("IndexOutOfBounds: there is no such frame");
        PaletteFrames none = new PaletteFrames(2);
        for (int wrong : new int[] {LEAST, -1, 0, MOST}) {
            CHECK.badIndex("through of frame " + wrong, () -> none.through(wrong, 0));
            CHECK.badIndex("none through of frame " + wrong, () -> none.through(wrong, -1));
        }
        PaletteFrames all = framesOf(12);
        for (int wrong : new int[] {LEAST, -2, -1, 12, 13, MOST}) {
            CHECK.badIndex("through of frame " + wrong, () -> all.through(wrong, 0));
            CHECK.badIndex("none through of frame " + wrong, () -> all.through(wrong, -1));
        }
        CHECK.due("through(0, 1)", all.through(0, 1), -1);
        CHECK.due("through(11, 2)", all.through(11, 2), -1);
        CHECK.due("through(0, 0)", all.through(0, 0), 1);
        CHECK.due("through(11, 0)", all.through(11, 0), 2);
    }

    private static void throughSymbols() {
        CHECK.says("A symbol of a frame is clear-through, or none (NONE): the one before");
        for (int least = 2; least <= 8; least++) {
            int many = 1 << least;
            PaletteFrames x = new PaletteFrames(least);
            x.put(0, 0, 1);
            x.frame(0, 0, 1, 1, false, 0, 0);
            CHECK.due("none at first", x.through(0, many - 1), -1);
            for (int wrong : new int[] {LEAST, -2, many, many + 1, MOST}) {
                CHECK.badIndex("through(0, " + wrong + ")", () -> x.through(0, wrong));
            }
            CHECK.due("through(0, 0)", x.through(0, 0), many - 1);
            CHECK.due("through(0, 0) again", x.through(0, 0), 0);
            CHECK.due("through(0, -1)", x.through(0, -1), 0);
            CHECK.due("through(0, -1) again", x.through(0, -1), -1);
        }
    }

    private static void throughIsOneOfEachFrame() {
        CHECK.says("each of frames 0 .. f shows its symbols, but those that are clear-through, over what is there");
        PaletteFrames x = new PaletteFrames(2);
        x.put(0, 1, 4);
        x.put(1, 0, 4);
        x.frame(0, 0, 4, 1, false, 0, 0);
        x.frame(0, 0, 4, 1, false, 0, 0);
        for (int i = 0; i < 4; i++) {
            x.colour(-1, i, 10 + i);
        }
        x.through(1, 1);
        for (int i = 0; i < 4; i++) {
            CHECK.due("all clear-through, at " + i, x.shown(1, i, 0), 10 + i);
        }
        x.through(0, 1);
        for (int i = 0; i < 4; i++) {
            CHECK.due("nothing below, at " + i, x.shown(1, i, 0), i == 1 ? -1 : 10 + i);
        }
        x.through(1, 0);
        for (int i = 0; i < 4; i++) {
            CHECK.due("another one is clear-through, at " + i, x.shown(1, i, 0), 11);
        }
        x.through(1, -1);
        CHECK.due("none is clear-through", x.shown(1, 2, 0), 11);
    }

    private static void shownFrames() {
        CHECK.says("IndexOutOfBounds: there is no such frame");
        PaletteFrames none = new PaletteFrames(2);
        PaletteFrames three = framesOf(3);
        PaletteFrames all = framesOf(12);
        for (int wrong : new int[] {LEAST, -2, -1, 12, 13, MOST}) {
            CHECK.badIndex("shown of frame " + wrong, () -> all.shown(wrong, 0, 0));
            CHECK.badIndex("shown of frame " + wrong, () -> none.shown(wrong, 0, 0));
            CHECK.badIndex("symbol of frame " + wrong, () -> all.symbol(wrong, 0, 0));
            CHECK.badIndex("symbol of frame " + wrong, () -> none.symbol(wrong, 0, 0));
        }
        CHECK.badIndex("shown of frame 0", () -> none.shown(0, 0, 0));
        CHECK.badIndex("shown of frame 3", () -> three.shown(3, 0, 0));
        CHECK.badIndex("symbol of frame 0", () -> none.symbol(0, 0, 0));
        CHECK.badIndex("symbol of frame 3", () -> three.symbol(3, 0, 0));
        all.colour(11, 0, 7);
        all.colour(0, 1, 8);
        CHECK.due("behind the last frame", all.shown(11, 11, 0), 7);
        CHECK.due("behind the first frame", all.shown(0, 0, 0), 8);
        CHECK.due("the last one is not there yet", all.shown(10, 11, 0), -1);
    }

    private static void shownPlaces() {
        CHECK.says("IndexOutOfBounds: there is no such .. place");
        PaletteFrames x = new PaletteFrames(2);
        x.put(1, 0, 576);
        x.colour(-1, 1, 6);
        x.frame(0, 0, 24, 24, false, 0, 0);
        for (int wrong : new int[] {LEAST, -24, -1, 24, 25, 65536, MOST}) {
            CHECK.badIndex("shown(0, " + wrong + ", 0)", () -> x.shown(0, wrong, 0));
            CHECK.badIndex("shown(0, 0, " + wrong + ")", () -> x.shown(0, 0, wrong));
            CHECK.badIndex("shown(0, " + wrong + ", 23)", () -> x.shown(0, wrong, 23));
            CHECK.badIndex("shown(0, 23, " + wrong + ")", () -> x.shown(0, 23, wrong));
            CHECK.badIndex("shown(0, " + wrong + ", " + wrong + ")", () -> x.shown(0, wrong, wrong));
        }
        for (int corner = 0; corner < 4; corner++) {
            CHECK.due("corner " + corner, x.shown(0, corner % 2 * 23, corner / 2 * 23), 6);
        }
    }

    private static void shownAtTheBorders() {
        CHECK.says("a place x, y on a SCREEN of 24 by 24, a width and a height");
        PaletteFrames x = new PaletteFrames(8);
        x.put(0, 1, 15);
        x.frame(7, 11, 5, 3, false, 0, 0);
        for (int i = 0; i < 15; i++) {
            x.colour(-1, i, 100 + i);
        }
        for (int i = 5; i <= 13; i++) {
            for (int j = 9; j <= 15; j++) {
                boolean in = i >= 7 && i < 12 && j >= 11 && j < 14;
                CHECK.due("shown(0, " + i + ", " + j + ")", x.shown(0, i, j), in ? 100 + (j - 11) * 5 + i - 7 : -1);
            }
        }
    }

    private static void shownWithoutColour() {
        CHECK.says("NONE: nothing, or a symbol without a colour");
        PaletteFrames x = new PaletteFrames(2);
        x.put(1, 1, 2);
        x.frame(0, 0, 1, 1, false, 0, 0);
        x.frame(0, 0, 1, 1, false, 0, 0);
        x.colour(-1, 1, 5);
        CHECK.due("nothing", x.shown(1, 1, 0), -1);
        CHECK.due("the first frame", x.shown(0, 0, 0), 5);
        CHECK.due("over it a symbol without a colour", x.shown(1, 0, 0), -1);
        x.colour(1, 2, 0);
        CHECK.due("with the colour 0", x.shown(1, 0, 0), 0);
    }

    /** Frames of one place: frame i shows i + 1, and its end is ends[i]. */
    private static PaletteFrames pile(int... ends) {
        PaletteFrames x = new PaletteFrames(4);
        for (int i = 0; i < ends.length; i++) {
            x.put(i + 1, 0, 1);
            x.colour(-1, i + 1, i + 1);
            x.frame(0, 0, 1, 1, false, ends[i], 0);
        }
        return x;
    }

    private static void endsTakeAwayBeforeTheNextOne() {
        CHECK.says("before the next one comes, a frame of end 2 leaves nothing in its place, and one of end 3 what was there before it");
        for (int ends = 0; ends < 256; ends++) {
            PaletteFrames x = pile(ends & 3, ends >> 2 & 3, ends >> 4 & 3, ends >> 6 & 3, 0);
            x.through(4, 5);
            int now = -1;
            for (int f = 0; f < 4; f++) {
                CHECK.due("behind frame " + f + " of ends " + ends, x.shown(f, 0, 0), f + 1);
                int end = ends >> 2 * f & 3;
                now = end == 3 ? now : end == 2 ? -1 : f + 1;
            }
            CHECK.due("behind all of ends " + ends, x.shown(4, 0, 0), now);
        }
    }

    private static void endTwoOfAllItsPlace() {
        CHECK.says("a frame of end 2 leaves nothing in its place");
        PaletteFrames x = new PaletteFrames(2);
        x.put(1, 0, 576);
        x.put(2, 0, 6);
        x.put(3, 0, 1);
        x.colour(-1, 1, 1);
        x.colour(-1, 2, 2);
        x.frame(0, 0, 24, 24, false, 0, 0);
        x.frame(10, 5, 3, 2, false, 2, 0);
        x.frame(0, 0, 1, 1, false, 0, 0);
        for (int clear = -1; clear <= 2; clear += 3) {
            x.through(1, clear);
            for (int i = 9; i <= 13; i++) {
                for (int j = 4; j <= 7; j++) {
                    boolean in = i >= 10 && i < 13 && j >= 5 && j < 7;
                    CHECK.due("behind it at " + i + ", " + j, x.shown(1, i, j), in && clear != 2 ? 2 : 1);
                    CHECK.due("behind the next at " + i + ", " + j, x.shown(2, i, j), in ? -1 : 1);
                }
            }
        }
    }

    private static void endThreeOfWhatWasBefore() {
        CHECK.says("one of end 3 what was there before it");
        PaletteFrames x = new PaletteFrames(2);
        x.put(1, 0, 4);
        x.put(2, 0, 4);
        x.put(3, 0, 2);
        x.colour(-1, 1, 1);
        x.colour(-1, 2, 2);
        x.colour(-1, 3, 3);
        x.frame(0, 0, 4, 1, false, 0, 0);
        x.frame(2, 0, 4, 1, false, 3, 0);
        x.frame(1, 0, 2, 1, false, 0, 0);
        int[] behind = {1, 1, 2, 2, 2, 2, -1};
        int[] next = {1, 3, 3, 1, -1, -1, -1};
        for (int i = 0; i < 7; i++) {
            CHECK.due("behind it at " + i, x.shown(1, i, 0), behind[i]);
            CHECK.due("behind the next at " + i, x.shown(2, i, 0), next[i]);
        }
    }

    private static void endOfTheFirstFrame() {
        CHECK.says("at first nothing anywhere");
        for (int end = 0; end <= 3; end++) {
            PaletteFrames x = pile(end, 0);
            CHECK.due("behind the first, end " + end, x.shown(0, 0, 0), 1);
            CHECK.due("beside it, end " + end, x.shown(0, 1, 0), -1);
            x.through(1, 2);
            CHECK.due("behind the next, end " + end, x.shown(1, 0, 0), end < 2 ? 1 : -1);
        }
    }

    private static void symbolPlaces() {
        CHECK.says("The symbol of a frame at a place of it");
        PaletteFrames x = new PaletteFrames(8);
        x.put(0, 1, 6 + 1 + 24);
        x.frame(20, 3, 2, 3, false, 0, 0);
        x.frame(23, 23, 1, 1, false, 0, 0);
        x.frame(0, 23, 24, 1, true, 0, 0);
        for (int i = 0; i < 6; i++) {
            CHECK.due("place " + i, x.symbol(0, i % 2, i / 2), i);
        }
        int[][] wrong = {{0, -1, 0}, {0, 2, 0}, {0, 0, -1}, {0, 0, 3}, {0, 2, 2}, {0, 1, 3}, {0, -1, 1}, {0, 20, 3},
            {0, LEAST, 0}, {0, 0, LEAST}, {0, MOST, 0}, {0, 0, MOST}, {0, 0, 1 << 31}, {0, 1, 1 << 30}, {0, MOST, MOST},
            {1, 1, 0}, {1, 0, 1}, {1, -1, 0}, {1, 0, -1}, {1, 23, 23}, {2, 24, 0}, {2, 0, 1}, {2, 0, 23}};
        for (int[] w : wrong) {
            CHECK.badIndex("symbol of " + Arrays.toString(w), () -> x.symbol(w[0], w[1], w[2]));
        }
        CHECK.due("symbol(1, 0, 0)", x.symbol(1, 0, 0), 6);
        CHECK.due("symbol(2, 0, 0)", x.symbol(2, 0, 0), 7);
        CHECK.due("symbol(2, 23, 0)", x.symbol(2, 23, 0), 30);
        x.through(1, 6);
        CHECK.due("clear-through is a symbol too", x.symbol(1, 0, 0), 6);
    }

    private static PaletteFrames delays(int... delays) {
        PaletteFrames x = new PaletteFrames(2);
        for (int delay : delays) {
            x.put(0, 0, 1);
            x.frame(0, 0, 1, 1, false, 0, delay);
        }
        return x;
    }

    private static void whenBelowZero() {
        CHECK.says("IllegalArgument: the time or the times are below 0");
        for (PaletteFrames x : new PaletteFrames[] {delays(), delays(0), delays(1), delays(3, 0, 5)}) {
            for (int wrong : new int[] {-1, -2, LEAST}) {
                CHECK.badArgument("when(" + wrong + ", 0)", () -> x.when(wrong, 0));
                CHECK.badArgument("when(0, " + wrong + ")", () -> x.when(0, wrong));
                CHECK.badArgument("when(" + wrong + ", 1)", () -> x.when(wrong, 1));
                CHECK.badArgument("when(most, " + wrong + ")", () -> x.when(MOST, wrong));
                CHECK.badArgument("when(" + wrong + ", " + wrong + ")", () -> x.when(wrong, wrong));
            }
        }
    }

    private static void whenWithoutFrames() {
        CHECK.says("NONE without frames");
        PaletteFrames x = delays();
        for (int time : new int[] {0, 1, 1000, MOST}) {
            for (int times : new int[] {0, 1, MOST}) {
                CHECK.due("when(" + time + ", " + times + ")", x.when(time, times), -1);
            }
        }
        PaletteFrames y = delays(4, 5);
        y.clear();
        CHECK.due("when(0, 0) behind clear", y.when(0, 0), -1);
    }

    private static void whenDelaysOfZero() {
        CHECK.says("with delays of 0 alone the last one");
        for (int many = 1; many <= 12; many++) {
            PaletteFrames x = delays(new int[many]);
            for (int time : new int[] {0, 1, MOST}) {
                for (int times : new int[] {0, 1, MOST}) {
                    CHECK.due("when(" + time + ", " + times + ") of " + many, x.when(time, times), many - 1);
                }
            }
        }
    }

    private static void whenEachForItsDelay() {
        CHECK.says("each for its delay, one after the other, and again from the first on");
        PaletteFrames x = delays(0, 3, 0, 0, 1, 1000, 0);
        int[][] due = {{0, 1}, {2, 1}, {3, 4}, {4, 5}, {1003, 5}, {1004, 1}, {1006, 1}, {1007, 4}, {1008, 5}, {2007, 5},
            {2008, 1}};
        for (int[] d : due) {
            CHECK.due("when(" + d[0] + ", 0)", x.when(d[0], 0), d[1]);
        }
        PaletteFrames one = delays(1);
        CHECK.due("one frame, when(0, 0)", one.when(0, 0), 0);
        CHECK.due("one frame, when(most, 0)", one.when(MOST, 0), 0);
    }

    private static void whenSoManyTimes() {
        CHECK.says("so many times in all (0: for ever); then the last one");
        PaletteFrames x = delays(2, 1, 0);
        int[][] due = {{0, 1, 0}, {1, 1, 0}, {2, 1, 1}, {3, 1, 2}, {4, 1, 2}, {MOST, 1, 2}, {3, 2, 0}, {5, 2, 1},
            {6, 2, 2}, {7, 2, 2}, {6, 3, 0}, {6, 0, 0}, {8, 0, 1}, {300, 100, 2}, {299, 100, 1}, {300, 101, 0}};
        for (int[] d : due) {
            CHECK.due("when(" + d[0] + ", " + d[1] + ")", x.when(d[0], d[1]), d[2]);
        }
    }

    private static void whenTimesWrapAround() {
        CHECK.says("so many times in all (0: for ever); then the last one");
        PaletteFrames one = delays(1, 0);
        CHECK.due("when(most - 1, most)", one.when(MOST - 1, MOST), 0);
        CHECK.due("when(most, most)", one.when(MOST, MOST), 1);
        CHECK.due("when(most, 0)", one.when(MOST, 0), 0);
        int[] long12 = new int[12];
        Arrays.fill(long12, 1000);
        PaletteFrames x = delays(long12);
        // 178956 rounds are 2147472000, the next one ends behind the greatest number.
        CHECK.due("in the last whole round", x.when(2147471999, 178956), 11);
        CHECK.due("behind it", x.when(2147472000, 178956), 11);
        CHECK.due("behind it, one round more", x.when(2147472000, 178957), 0);
        for (int times : new int[] {0, 178957, 178958, 357913, 357914, 715828, 1 << 30, MOST - 1, MOST}) {
            CHECK.due("when(2147473000, " + times + ")", x.when(2147473000, times), 1);
            CHECK.due("when(most, " + times + ")", x.when(MOST, times), 11);
            CHECK.due("when(5, " + times + ")", x.when(5, times), 0);
        }
    }

    private static void passOfEdges() {
        CHECK.says("In which of the four passes of an interlaced frame a row comes, 0 .. 3. IllegalArgument: it is below 0");
        PaletteFrames x = new PaletteFrames(2);
        int[] due = {0, 3, 2, 3, 1, 3, 2, 3};
        for (int row = 0; row < 48; row++) {
            CHECK.due("passOf(" + row + ")", x.passOf(row), due[row % 8]);
            CHECK.due("passOf(most - " + row + ")", x.passOf(MOST - row), due[7 - row % 8]);
        }
        CHECK.due("passOf(2^30)", x.passOf(1 << 30), 0);
        for (int wrong : new int[] {-1, -2, -4, -8, LEAST, LEAST + 1}) {
            CHECK.badArgument("passOf(" + wrong + ")", () -> x.passOf(wrong));
        }
    }
}
