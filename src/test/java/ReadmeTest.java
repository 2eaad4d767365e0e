/** The example of README.md, with the answers that it tells. */
public final class ReadmeTest {
    private static final Check CHECK = new Check("ReadmeTest");

    public static void main(String[] args) {
        PaletteFrames x = new PaletteFrames(2);
        rows(x);
        frames(x);
        CHECK.finish();
    }

    private static void rows(PaletteFrames x) {
        CHECK.due("put(1, 0, 20)", x.put(1, 0, 20), 20);
        int bytes = x.encode();
        CHECK.due("encode()", bytes, 4);
        CHECK.badIndex("byteAt(4)", () -> x.byteAt(4));
        CHECK.due("pass(0, bytes)", x.pass(0, bytes), 4);
        CHECK.due("decode()", x.decode(), 20);
        CHECK.due("at(19)", x.at(19), 1);
        CHECK.due("take()", x.take(), 20);
    }

    private static void frames(PaletteFrames x) {
        CHECK.due("frame(2, 3, 5, 4, false, 2, 10)", x.frame(2, 3, 5, 4, false, 2, 10), 0);
        CHECK.due("colour(NONE, 1, 0xFF0000)", x.colour(PaletteFrames.NONE, 1, 0xFF0000), -1);
        CHECK.due("shown(0, 2, 3)", x.shown(0, 2, 3), 0xFF0000);
        CHECK.due("put(1, 1, 2)", x.put(1, 1, 2), 2);
        CHECK.due("frame(0, 0, 2, 1, false, 0, 5)", x.frame(0, 0, 2, 1, false, 0, 5), 1);
        CHECK.due("colour(1, 2, 0x0000FF)", x.colour(1, 2, 0x0000FF), -1);
        CHECK.due("through(1, 1)", x.through(1, 1), -1);
        CHECK.due("shown(1, 0, 0)", x.shown(1, 0, 0), -1);
        CHECK.due("shown(1, 1, 0)", x.shown(1, 1, 0), 0x0000FF);
        CHECK.due("shown(1, 2, 3)", x.shown(1, 2, 3), -1);
        CHECK.due("when(12, 0)", x.when(12, 0), 1);
        CHECK.due("when(15, 0)", x.when(15, 0), 0);
    }
}
