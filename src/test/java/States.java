import java.util.ArrayList;
import java.util.Arrays;
import java.util.List;

/** Objects in states of many kinds, each made anew by fewer than 100 calls, and what they answer then. */
final class States {
    static final String[] NAMES = {
        "new", "a row", "a full row", "a row to the last but one", "coded", "bytes wait", "23990 bytes wait",
        "24000 bytes wait", "read", "read up to an odd code", "read up to 12000", "taken", "frames", "12 frames",
        "12 frames and no row", "all", "cleared",
    };

    private States() {
    }

    static PaletteFrames make(String name) {
        PaletteFrames x = new PaletteFrames(name.equals("frames") || name.equals("12 frames") ? 2 : 8);
        bring(x, name);
        return x;
    }

    /** Brings a new object, or one as at first, into the state. */
    static void bring(PaletteFrames x, String name) {
        switch (name) {
            case "a row" -> put(x, 30);
            case "a full row" -> put(x, 12000);
            case "a row to the last but one" -> put(x, 11999);
            case "coded" -> code(x, 500);
            case "bytes wait" -> wait(x, 500, 100);
            case "23990 bytes wait" -> wait(x, 12000, 23990);
            case "24000 bytes wait" -> wait(x, 12000, 24000);
            case "read" -> read(x, 700);
            case "read up to an odd code" -> readOdd(x);
            case "read up to 12000" -> read(x, 12000);
            case "taken" -> {
                read(x, 700);
                x.put(1, 1, 40);
                x.take();
            }
            case "frames" -> frames(x, 3);
            case "12 frames" -> frames(x, 12);
            case "12 frames and no row" -> {
                frames(x, 12);
                x.take();
            }
            case "all" -> all(x);
            case "cleared" -> {
                all(x);
                x.clear();
            }
            default -> { }
        }
    }

    private static void put(PaletteFrames x, int many) {
        for (int left = many; left > 0; left -= 1000) {
            x.put(left, 2 * left + 1, Math.min(left, 1000));
        }
    }

    private static void code(PaletteFrames x, int many) {
        put(x, many);
        x.rule(1);
        x.encode();
    }

    private static void wait(PaletteFrames x, int many, int bytes) {
        code(x, many);
        int left = bytes;
        for (int i = 0; i < 100 && left > 0; i++) {
            left -= x.pass(0, left);
        }
    }

    private static void read(PaletteFrames x, int many) {
        code(x, many);
        x.pass(0, 24000);
        x.decode();
    }

    private static void readOdd(PaletteFrames x) {
        new Bits().code(256, 9).code(7, 9).code(8, 9).code(258, 9).code(300, 9).feedTo(x);
        x.decode();
    }

    private static void frames(PaletteFrames x, int many) {
        x.put(1, 3, 900);
        for (int i = 0; i < many; i++) {
            x.frame(i, 2 * i % 5, 2 + i % 3, 3 + i % 7, i % 2 == 0, i % 4, 10 * i % 70);
            x.colour(i, i % 4, 1000 + i);
            x.through(i, i % 3 - 1);
        }
        x.colour(-1, 1, 77);
        x.colour(-1, 3, 16777215);
    }

    private static void all(PaletteFrames x) {
        read(x, 700);
        frames(x, 5);
        x.rule(2);
        x.feed(1);
        x.pass(3, 40);
    }

    /** The answers to a long row of calls that ask for all of the state, and then go on from it. */
    static List<String> answers(PaletteFrames x) {
        List<String> all = new ArrayList<>();
        numbers(x, all);
        for (int i : new int[] {0, 1, 2, 3, 4, 7, 33, 99, 450, 699, 700, 2000, 11998, 11999, 12000}) {
            ask(all, x, "byteAt", i);
            ask(all, x, "at", i);
        }
        for (int f = 0; f < 12; f++) {
            for (int i = 0; i < 3; i++) {
                ask(all, x, "symbol", f, i, 2 * i);
                ask(all, x, "shown", f, f / 2 + i, f / 3 + i);
            }
        }
        for (int time : new int[] {0, 5, 30, 69, 70, 100, 250, 400}) {
            ask(all, x, "when", time, time % 3);
        }
        changes(x, all);
        goesOn(x, all);
        return all;
    }

    private static void numbers(PaletteFrames x, List<String> all) {
        for (int what = 0; what < 5; what++) {
            ask(all, x, "told", what);
            ask(all, x, "coded", what);
        }
    }

    private static void changes(PaletteFrames x, List<String> all) {
        ask(all, x, "rule", 0);
        for (int f = -1; f < 12; f++) {
            ask(all, x, "through", f, 2);
            for (int symbol = 0; symbol < 4; symbol++) {
                ask(all, x, "colour", f, symbol, 5 + f);
            }
        }
    }

    private static void goesOn(PaletteFrames x, List<String> all) {
        ask(all, x, "put", 250, 7, 1);
        ask(all, x, "put", 250, 7, 100);
        ask(all, x, "feed", 77);
        ask(all, x, "decode");
        ask(all, x, "at", 0);
        ask(all, x, "frame", 1, 1, 4, 4, true, 0, 9);
        ask(all, x, "encode");
        numbers(x, all);
        for (int i = 0; i < 8; i++) {
            ask(all, x, "byteAt", 3 * i * i);
        }
        ask(all, x, "pass", 0, 24000);
        ask(all, x, "decode");
        ask(all, x, "at", 15);
        ask(all, x, "take");
        ask(all, x, "frame", 0, 0, 3, 3, false, 0, 9);
        ask(all, x, "symbol", 0, 1, 2);
        ask(all, x, "shown", 0, 1, 2);
        numbers(x, all);
    }

    private static void ask(List<String> all, PaletteFrames x, String name, Object... arguments) {
        all.add(name + Arrays.toString(arguments) + " " + Calls.answer(x, name, arguments));
    }
}
