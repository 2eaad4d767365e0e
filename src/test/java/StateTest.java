/** Promises 19 and 20: what is told of the state, and that clear makes all as at first. */
public final class StateTest {
    private static final Check CHECK = new Check("StateTest");

    public static void main(String[] args) {
        toldOfEach();
        clearMakesAllNew();
        clearMakesFramesNew();
        objectsAreApart();
        CHECK.finish();
    }

    private static void toldDue(String where, PaletteFrames x, int... due) {
        for (int what = 0; what < due.length; what++) {
            CHECK.due("told(" + what + ") " + where, x.told(what), due[what]);
        }
        CHECK.due("told(5) " + where, x.told(5), -1);
        CHECK.due("told(-1) " + where, x.told(-1), -1);
        CHECK.due("told(most) " + where, x.told(Integer.MAX_VALUE), -1);
        CHECK.due("told(least) " + where, x.told(Integer.MIN_VALUE), -1);
    }

    private static PaletteFrames used() {
        PaletteFrames x = new PaletteFrames(3);
        x.rule(2);
        x.put(0, 1, 10);
        x.encode();
        x.pass(0, 1000);
        x.decode();
        x.feed(1);
        x.feed(2);
        x.frame(0, 0, 2, 2, false, 2, 9);
        x.frame(1, 1, 1, 1, false, 0, 9);
        x.colour(-1, 0, 5);
        x.colour(0, 1, 6);
        x.through(0, 1);
        return x;
    }

    private static void toldOfEach() {
        toldDue("at first", new PaletteFrames(3), 3, 0, 0, 0, 0);
        toldDue("used", used(), 3, 5, 2, 10, 2);
    }

    private static void clearMakesAllNew() {
        PaletteFrames x = used();
        x.clear();
        toldDue("cleared", x, 3, 0, 0, 0, 0);
        for (int what = 0; what < 4; what++) {
            CHECK.due("coded(" + what + ")", x.coded(what), 0);
        }
        CHECK.badIndex("byteAt(0)", () -> x.byteAt(0));
        CHECK.badIndex("pass(0, 0)", () -> x.pass(0, 0));
        CHECK.badIndex("at(0)", () -> x.at(0));
        CHECK.badIndex("shown(0, 0, 0)", () -> x.shown(0, 0, 0));
        CHECK.badIndex("symbol(0, 0, 0)", () -> x.symbol(0, 0, 0));
        CHECK.badState("frame", () -> x.frame(0, 0, 1, 1, false, 0, 0));
        CHECK.due("when(0, 0)", x.when(0, 0), -1);
        CHECK.due("decode()", x.decode(), 0);
        CHECK.due("take()", x.take(), 0);
        CHECK.due("encode()", x.encode(), 1);
        CHECK.due("rule(1)", x.rule(1), 0);
        x.clear();
        x.clear();
        CHECK.due("coded(0)", x.coded(0), 0);
        CHECK.due("rule(1)", x.rule(1), 0);
    }

    private static void clearMakesFramesNew() {
        PaletteFrames x = used();
        x.clear();
        x.put(1, 0, 1);
        CHECK.due("frame", x.frame(0, 0, 1, 1, false, 0, 0), 0);
        CHECK.due("no colour", x.shown(0, 0, 0), -1);
        CHECK.due("the screen's", x.colour(-1, 0, 1), -1);
        CHECK.due("its own", x.colour(0, 1, 1), -1);
        CHECK.due("through", x.through(0, -1), -1);
        CHECK.due("shown", x.shown(0, 0, 0), 1);
    }

    private static void objectsAreApart() {
        PaletteFrames x = used();
        PaletteFrames y = new PaletteFrames(4);
        y.put(1, 1, 3);
        toldDue("of one", x, 3, 5, 2, 10, 2);
        toldDue("of the other", y, 4, 3, 0, 0, 0);
    }
}
