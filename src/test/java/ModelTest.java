import java.util.Arrays;

/** Runs of calls, the same in every run of the test, each answered as Model answers. */
public final class ModelTest {
    private static final Check CHECK = new Check("ModelTest");
    private static final int MOST_CALLS = 512;
    private static final int[] EDGES = {Integer.MIN_VALUE, -1000000, -25, -2, -1, 0, 1, 2, 3, 4, 5, 8, 11, 12, 23,
        24, 25, 255, 256, 999, 1000, 1001, 11999, 12000, 24000, 16777215, 16777216, Integer.MAX_VALUE};
    /** What a run is mostly about: names of calls, the more often the likelier. */
    private static final String[] KINDS = {
        "put put put put rule encode encode byteAt coded pass pass decode at take told",
        "put feed feed feed feed feed feed decode at take pass encode",
        "put put frame frame frame colour colour colour through shown shown shown symbol when",
        "put rule encode byteAt coded feed pass decode at take frame colour through shown symbol when passOf told clear",
    };

    private static long seed = 1;
    private final PaletteFrames real;
    private final Model model;
    private final String run;
    private int calls;

    private ModelTest(String run, int least) {
        this.run = run;
        real = new PaletteFrames(least);
        model = new Model(least);
    }

    public static void main(String[] args) {
        for (int i = 0; i < 400; i++) {
            ModelTest test = new ModelTest("run " + i, next(12) - 1);
            test.mixed(KINDS[i % KINDS.length].split(" "), MOST_CALLS / 2);
            test.compareAll();
        }
        for (int i = 0; i < 60; i++) {
            new ModelTest("whole run " + i, 2 + i % 7).mixed(KINDS[i % KINDS.length].split(" "), MOST_CALLS);
        }
        for (int i = 0; i < 60; i++) {
            new ModelTest("odd run " + i, 2 + i % 7).spoilt();
        }
        int keptLooks = 0;
        int moreClears = 0;
        for (int i = 0; i < 60; i++) {
            ModelTest test = new ModelTest("full run " + i, 8 - i % 5);
            test.full();
            keptLooks += test.model.keptLooks;
            moreClears += test.model.coded(1) - 1;
        }
        CHECK.due("many a look of rule 2 did not clear", keptLooks > 9 ? 1 : 0, 1);
        CHECK.due("many a look of rule 2 did", moreClears > 9 ? 1 : 0, 1);
        CHECK.finish();
    }

    private void mixed(String[] names, int most) {
        while (calls < most && CHECK.isClean()) {
            String name = names[next(names.length)];
            call(name, argumentsOf(name));
        }
    }

    /** Coded bytes with parts left out, and others between them. */
    private void spoilt() {
        for (int i = 0; i < 12; i++) {
            call("put", next(256), next(9) - 4, 1 + next(300));
            call("encode");
            int bytes = model.encode();
            int cut = next(bytes);
            call("pass", 0, cut);
            for (int k = next(3); k > 0; k--) {
                call("feed", next(256));
            }
            call("pass", Math.min(bytes - 1, cut + next(3)), bytes);
            call("decode");
            compareRead(3);
            if (next(3) == 0) {
                call("take");
            }
        }
        compareAll();
    }

    /** Rows that just fill the table, with long known strings and new ones behind that, under each rule. */
    private void full() {
        call("rule", 1);
        call("put", 5, 0, 300);
        call("put", 9, 0, 300);
        int room = 4095 - (1 << model.told(0)) - 1;
        for (int i = 0; i < 110 && model.coded(3) < room; i++) {
            call("put", next(256), 2 * next(128) + 1, 50);
            if (i > 60) {
                call("encode");
            }
        }
        boolean known = next(4) > 0;
        for (int i = 0; i < 160; i++) {
            known = next(80) == 0 ? !known : known;
            if (known) {
                call("put", i % 2 == 0 ? 5 : 9, 0, 8 + next(12));
            } else {
                call("put", next(256), 2 * next(128) + 1, 5);
            }
        }
        for (int rule : new int[] {1, 2, 0, 2}) {
            call("rule", rule);
            call("encode");
            call("pass", 0, 24000);
            call("decode");
            compareRead(10);
        }
        compareAll();
    }

    private Object[] argumentsOf(String name) {
        Class<?>[] types = Calls.method(PaletteFrames.class, name).getParameterTypes();
        Object[] arguments = new Object[types.length];
        for (int i = 0; i < types.length; i++) {
            arguments[i] = types[i] == boolean.class ? (Object) (next(2) == 0) : (Object) likely(name, i);
        }
        return arguments;
    }

    private int likely(String name, int place) {
        if (next(25) == 0) {
            return EDGES[next(EDGES.length)];
        }
        switch (name) {
            case "put":
                return place == 2 ? 1 + next(next(3) == 0 ? 1000 : 80) : next(2) == 0 ? next(2) : next(600) - 300;
            case "feed":
                return next(256);
            case "byteAt":
                return next(model.told(1) + 1);
            case "at":
                return next(model.told(3) + 1);
            case "pass":
                return next(next(2) == 0 ? 3 : 5000);
            case "frame":
                return new int[] {next(8), next(8), 1 + next(10), 1 + next(17), 0, next(4), next(20)}[place];
            case "colour":
                return place == 2 ? next(5) == 0 ? -1 : next(1000) : next(model.told(4) + 2) - 1;
            case "shown":
                return place == 0 ? next(model.told(4) + 1) : next(16);
            case "through":
            case "symbol":
                return next(model.told(4) + 3) - 1;
            case "when":
                return place == 0 ? next(300) : next(5);
            case "rule":
                return next(3);
            default:
                return next(30) - 1;
        }
    }

    private void compareAll() {
        for (int i = 0; i < 6; i++) {
            call("told", i);
            call("coded", i);
        }
        compareRead(25);
        for (int i = 0; i < 40 && calls < MOST_CALLS - 60; i++) {
            call("byteAt", next(200));
            call("shown", next(12), next(24), next(24));
            call("symbol", next(12), next(5), next(5));
        }
    }

    private void compareRead(int many) {
        int read = model.told(3);
        for (int i = 0; i < many && calls < MOST_CALLS - 20; i++) {
            call("at", read == 0 ? 0 : next(read));
        }
        call("at", read - 1);
        call("at", read);
    }

    private void call(String name, Object... arguments) {
        calls++;
        String got = Calls.answer(real, name, arguments);
        String want = Calls.answer(model, name, arguments);
        CHECK.due(run + ", call " + calls + ": " + name + Arrays.toString(arguments), got, want);
    }

    /** 0 .. below - 1, of a row of numbers that is always the same. */
    private static int next(int below) {
        seed = seed * 6364136223846793005L + 1442695040888963407L;
        return (int) Long.remainderUnsigned(seed >>> 33, below);
    }
}
