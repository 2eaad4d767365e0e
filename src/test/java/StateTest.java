/** Promises 19 and 20: what is told of the state, and that clear makes all as at first. */
public final class StateTest {
    private static final Check CHECK = new Check("StateTest");

    public static void main(String[] args) {
        toldOfEach();
        clearMakesAllNew();
        clearMakesFramesNew();
        objectsAreApart();
        clearIsAsNew();
        clearedIsUsedAgain();
        askingChangesNothing();
        toldAtItsEdges();
        CHECK.finish();
    }

    private static void toldDue(String where, PaletteFrames x, int... due) {
        for (int what = 0; what < due.length; what++) {
            CHECK.due("told(" + what + ") " + where, x.told(what), due[what]);
        }
        CHECK.due("told(5) " + where, x.told(5), -1);
        CHECK.due("told(-1) " + where, x.told(-1), -1);
        CHECK.due("told(most) " + where, x.told(Integer.MAX_VALUE), -1);
        CHECK.due("told(least) " + where, x.told(Integer.MIN_VALUE), -1);
    }

    private static PaletteFrames used() {
        PaletteFrames x = new PaletteFrames(3);
        x.rule(2);
        x.put(0, 1, 10);
        x.encode();
        x.pass(0, 1000);
        x.decode();
        x.feed(1);
        x.feed(2);
        x.frame(0, 0, 2, 2, false, 2, 9);
        x.frame(1, 1, 1, 1, false, 0, 9);
        x.colour(-1, 0, 5);
        x.colour(0, 1, 6);
        x.through(0, 1);
        return x;
    }

    private static void toldOfEach() {
        toldDue("at first", new PaletteFrames(3), 3, 0, 0, 0, 0);
        toldDue("used", used(), 3, 5, 2, 10, 2);
    }

    private static void clearMakesAllNew() {
        PaletteFrames x = used();
        x.clear();
        toldDue("cleared", x, 3, 0, 0, 0, 0);
        for (int what = 0; what < 4; what++) {
            CHECK.due("coded(" + what + ")", x.coded(what), 0);
        }
        CHECK.badIndex("byteAt(0)", () -> x.byteAt(0));
        CHECK.badIndex("pass(0, 0)", () -> x.pass(0, 0));
        CHECK.badIndex("at(0)", () -> x.at(0));
        CHECK.badIndex("shown(0, 0, 0)", () -> x.shown(0, 0, 0));
        CHECK.badIndex("symbol(0, 0, 0)", () -> x.symbol(0, 0, 0));
        CHECK.badState("frame", () -> x.frame(0, 0, 1, 1, false, 0, 0));
        CHECK.due("when(0, 0)", x.when(0, 0), -1);
        CHECK.due("decode()", x.decode(), 0);
        CHECK.due("take()", x.take(), 0);
        CHECK.due("encode()", x.encode(), 1);
        CHECK.due("rule(1)", x.rule(1), 0);
        x.clear();
        x.clear();
        CHECK.due("coded(0)", x.coded(0), 0);
        CHECK.due("rule(1)", x.rule(1), 0);
    }

    private static void clearMakesFramesNew() {
        PaletteFrames x = used();
        x.clear();
        x.put(1, 0, 1);
        CHECK.due("frame", x.frame(0, 0, 1, 1, false, 0, 0), 0);
        CHECK.due("no colour", x.shown(0, 0, 0), -1);
        CHECK.due("the screen's", x.colour(-1, 0, 1), -1);
        CHECK.due("its own", x.colour(0, 1, 1), -1);
        CHECK.due("through", x.through(0, -1), -1);
        CHECK.due("shown", x.shown(0, 0, 0), 1);
    }

    private static void objectsAreApart() {
        PaletteFrames x = used();
        PaletteFrames y = new PaletteFrames(4);
        y.put(1, 1, 3);
        toldDue("of one", x, 3, 5, 2, 10, 2);
        toldDue("of the other", y, 4, 3, 0, 0, 0);
    }

    private static void clearIsAsNew() {
        CHECK.says("All is as at first");
        for (String state : States.NAMES) {
            PaletteFrames x = States.make(state);
            x.clear();
            answersDue(state + ", cleared", x, new PaletteFrames(x.told(0)));
            PaletteFrames twice = States.make(state);
            twice.clear();
            twice.clear();
            answersDue(state + ", cleared twice", twice, new PaletteFrames(twice.told(0)));
        }
    }

    private static void clearedIsUsedAgain() {
        CHECK.says("All is as at first");
        for (String before : States.NAMES) {
            for (String state : States.NAMES) {
                PaletteFrames x = States.make(before);
                PaletteFrames y = new PaletteFrames(x.told(0));
                x.clear();
                States.bring(x, state);
                States.bring(y, state);
                answersDue(state + ", behind " + before + ", cleared", x, y);
            }
        }
    }

    /** Calls that only ask; every other call of the face has an answer that tells of a change. */
    private static void askingChangesNothing() {
        CHECK.says("Nothing is promised beyond the answers and state changes described above");
        for (String state : States.NAMES) {
            PaletteFrames x = States.make(state);
            for (int i = 0; i < 5; i++) {
                Calls.answer(x, "told", i);
                Calls.answer(x, "coded", i);
                Calls.answer(x, "byteAt", i);
                Calls.answer(x, "at", i);
                Calls.answer(x, "symbol", i, 0, 1);
                Calls.answer(x, "shown", i, i, i);
                Calls.answer(x, "when", 9 * i, i);
                Calls.answer(x, "passOf", i);
            }
            answersDue(state + ", asked", x, States.make(state));
        }
    }

    private static void toldAtItsEdges() {
        CHECK.says("L (what = 0), symbols in the row (1), bytes that wait (2), symbols read last (3), frames (4); NONE for another what");
        toldDue("a full row", States.make("a full row"), 8, 12000, 0, 0, 0);
        toldDue("24000 bytes", States.make("24000 bytes wait"), 8, 12000, 24000, 0, 0);
        toldDue("12000 read", States.make("read up to 12000"), 8, 12000, 0, 12000, 0);
        toldDue("12 frames", States.make("12 frames and no row"), 8, 0, 0, 0, 12);
        toldDue("an odd code", States.make("read up to an odd code"), 8, 0, 0, 4, 0);
        toldDue("cleared", States.make("cleared"), 8, 0, 0, 0, 0);
    }

    private static void answersDue(String what, PaletteFrames x, PaletteFrames due) {
        CHECK.due(what, States.answers(x), States.answers(due));
    }
}
