import java.util.ArrayList;
import java.util.Arrays;
import java.util.List;

/**
 * Refused calls, in states of many kinds: each throws what the document asks for, the first of several,
 * and the answer of every later call is as if it had not been made.
 */
public final class RefusedTest {
    private static final Check CHECK = new Check("RefusedTest");
    private static final int MOST = Integer.MAX_VALUE;
    private static final int LEAST = Integer.MIN_VALUE;
    private static final String ARGUMENT = "throws.IllegalArgumentException";
    private static final String INDEX = "throws.IndexOutOfBoundsException";
    private static final String STATE = "throws.IllegalStateException";
    private static final String MORE = "throws.UnsupportedOperationException";

    private record Refused(String due, String name, Object[] arguments) { }

    private final String state;
    private final List<Refused> calls = new ArrayList<>();
    private final int symbols;
    private final int row;
    private final int waiting;
    private final int read;
    private final int frames;
    private final int bytes;

    private RefusedTest(String state) {
        this.state = state;
        PaletteFrames x = States.make(state);
        symbols = 1 << x.told(0);
        row = x.told(1);
        waiting = x.told(2);
        read = x.told(3);
        frames = x.told(4);
        bytes = bytesOf(x);
    }

    public static void main(String[] args) {
        CHECK.says("A call that throws changes nothing");
        for (String state : States.NAMES) {
            RefusedTest test = new RefusedTest(state);
            test.gather();
            test.eachAlone();
            test.manyTogether();
        }
        CHECK.finish();
    }

    /** Halved down with byteAt, as no call tells it. */
    private static int bytesOf(PaletteFrames x) {
        int low = 0;
        int high = 20000;
        while (low < high) {
            int middle = (low + high) / 2;
            if (Calls.answer(x, "byteAt", middle).equals(INDEX)) {
                high = middle;
            } else {
                low = middle + 1;
            }
        }
        return low;
    }

    private void gather() {
        rows();
        indexes();
        feeds();
        frameArguments();
        frameStates();
        colours();
        places();
        times();
    }

    private void eachAlone() {
        List<String> due = States.answers(States.make(state));
        for (Refused call : calls) {
            PaletteFrames x = States.make(state);
            refuse(x, call);
            CHECK.due(state + ", behind " + nameOf(call), States.answers(x), due);
        }
    }

    /** As many one behind the other as leave room for the later calls. */
    private void manyTogether() {
        List<String> due = States.answers(States.make(state));
        for (int from = 0; from < calls.size(); from += 100) {
            PaletteFrames x = States.make(state);
            for (int i = from; i < from + 100 && i < calls.size(); i++) {
                refuse(x, calls.get(i));
            }
            CHECK.due(state + ", behind a hundred refused calls", States.answers(x), due);
        }
    }

    private void refuse(PaletteFrames x, Refused call) {
        CHECK.due(state + ": " + nameOf(call), Calls.answer(x, call.name(), call.arguments()), call.due());
    }

    private static String nameOf(Refused call) {
        return call.name() + Arrays.toString(call.arguments());
    }

    private void add(String due, String name, Object... arguments) {
        calls.add(new Refused(due, name, arguments));
    }

    private void rows() {
        for (int n : new int[] {LEAST, -1000, -1, 0, 1001, 12001, MOST}) {
            add(ARGUMENT, "put", 3, 1, n);
        }
        for (int n : new int[] {1, 2, 999, 1000}) {
            if (row + n > 12000) {
                add(MORE, "put", 3, 1, n);
            }
        }
        for (int rule : new int[] {LEAST, -1, 3, MOST}) {
            add(ARGUMENT, "rule", rule);
        }
    }

    private void indexes() {
        for (int i : new int[] {LEAST, -1, bytes, bytes + 1, MOST}) {
            add(INDEX, "byteAt", i);
        }
        for (int i : new int[] {LEAST, -1, read, read + 1, MOST}) {
            add(INDEX, "at", i);
        }
    }

    private void feeds() {
        for (int b : new int[] {LEAST, -1, 256, MOST}) {
            add(ARGUMENT, "feed", b);
        }
        if (waiting == 24000) {
            add(MORE, "feed", 0);
            add(MORE, "feed", 255);
        }
        for (int i : new int[] {LEAST, -1, bytes, bytes + 1, MOST}) {
            for (int n : new int[] {LEAST, -1, 0, 1, MOST}) {
                add(INDEX, "pass", i, n);
            }
        }
        if (bytes > 0) {
            add(ARGUMENT, "pass", 0, -1);
            add(ARGUMENT, "pass", bytes - 1, LEAST);
        }
        if (waiting + bytes > 24000) {
            add(MORE, "pass", 0, 24001 - waiting);
            add(MORE, "pass", 0, MOST);
        }
    }

    private void frameArguments() {
        int[][] wrong = {{0, 0, 0, 1, 0, 0}, {0, 0, 1, 0, 0, 0}, {0, 0, 25, 1, 0, 0}, {0, 0, 1, 25, 0, 0},
            {-1, 0, 1, 1, 0, 0}, {0, -1, 1, 1, 0, 0}, {24, 0, 1, 1, 0, 0}, {0, 24, 1, 1, 0, 0}, {1, 0, 24, 1, 0, 0},
            {0, 1, 1, 24, 0, 0}, {MOST, 0, 1, 1, 0, 0}, {0, MOST, 1, 1, 0, 0}, {LEAST, 0, 24, 1, 0, 0},
            {0, 0, 65536, 65536, 0, 0}, {0, 0, 1, 1, -1, 0}, {0, 0, 1, 1, 4, 0}, {0, 0, 1, 1, 0, -1},
            {0, 0, 1, 1, 0, 1001}, {0, 0, 24, 24, 0, MOST}, {0, 0, 24, 24, LEAST, 0}};
        for (int[] w : wrong) {
            add(ARGUMENT, "frame", w[0], w[1], w[2], w[3], w[0] == 0, w[4], w[5]);
        }
    }

    private void frameStates() {
        for (int[] side : new int[][] {{1, 1}, {1, 24}, {4, 9}, {24, 24}}) {
            if (row < side[0] * side[1]) {
                add(STATE, "frame", 0, 0, side[0], side[1], true, 0, 0);
            } else if (frames == 12) {
                add(MORE, "frame", 0, 0, side[0], side[1], true, 0, 0);
            }
        }
        if (row < 24) {
            add(STATE, "frame", 0, 0, row + 1, 1, false, 0, 0);
        }
    }

    private void colours() {
        for (int frame : new int[] {LEAST, -2, frames, frames + 1, 12, MOST}) {
            add(INDEX, "colour", frame, 0, 5);
            add(INDEX, "colour", frame, symbols, -2);
        }
        for (int frame = -1; frame < frames; frame += 4) {
            for (int symbol : new int[] {LEAST, -1, symbols, MOST}) {
                add(INDEX, "colour", frame, symbol, 5);
                add(INDEX, "colour", frame, symbol, 16777216);
            }
            for (int rgb : new int[] {LEAST, -2, 16777216, MOST}) {
                add(ARGUMENT, "colour", frame, 1, rgb);
                add(ARGUMENT, "colour", frame, symbols - 1, rgb);
            }
        }
        for (int frame : new int[] {LEAST, -1, frames, 12, MOST}) {
            add(INDEX, "through", frame, -1);
            add(INDEX, "through", frame, 1);
        }
        for (int frame = 0; frame < frames; frame += 4) {
            for (int symbol : new int[] {LEAST, -2, symbols, MOST}) {
                add(INDEX, "through", frame, symbol);
            }
        }
    }

    private void places() {
        for (int frame : new int[] {LEAST, -1, frames, 12, MOST}) {
            add(INDEX, "shown", frame, 0, 0);
            add(INDEX, "symbol", frame, 0, 0);
        }
        for (int frame = 0; frame < frames; frame += 4) {
            for (int place : new int[] {LEAST, -1, 24, MOST}) {
                add(INDEX, "shown", frame, place, 0);
                add(INDEX, "shown", frame, 0, place);
                add(INDEX, "symbol", frame, place, 0);
                add(INDEX, "symbol", frame, 0, place);
            }
        }
    }

    private void times() {
        for (int wrong : new int[] {LEAST, -1}) {
            add(ARGUMENT, "when", wrong, 0);
            add(ARGUMENT, "when", 0, wrong);
            add(ARGUMENT, "passOf", wrong);
        }
    }
}
