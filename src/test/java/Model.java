import java.util.ArrayList;
import java.util.Arrays;
import java.util.HashMap;
import java.util.List;
import java.util.Map;

/** The document written a second time, in the plainest way and with the whole library, to compare with. */
public final class Model {
    private record Shape(int x, int y, int width, int height, int end, int delay) { }

    private final int least;
    private final int clear;
    private final int end;
    private int rule;
    private String row;
    private String read;
    private List<Integer> waiting;
    private List<Integer> bytes;
    private int[] coded;
    private List<Shape> frames;
    private List<int[][]> pictures;
    private List<Integer> throughs;
    private List<Map<Integer, Integer>> colours;
    private Map<Integer, Integer> screen;
    /** How often rule 2 looked and did not clear, for the test to see that it went there. */
    int keptLooks = 0;

    public Model(int least) {
        this.least = least < 2 ? 2 : least > 8 ? 8 : least;
        clear = (int) Math.pow(2, this.least);
        end = clear + 1;
        clear();
    }

    public void clear() {
        rule = 0;
        row = "";
        read = "";
        waiting = new ArrayList<>();
        bytes = new ArrayList<>();
        coded = new int[4];
        frames = new ArrayList<>();
        pictures = new ArrayList<>();
        throughs = new ArrayList<>();
        colours = new ArrayList<>();
        screen = new HashMap<>();
    }

    public int put(int v, int step, int n) {
        demand(n >= 1 && n <= 1000);
        if (row.length() + n > 12000) {
            throw new UnsupportedOperationException();
        }
        StringBuilder more = new StringBuilder(row);
        for (long i = 0; i < n; i++) {
            more.append((char) Math.floorMod(v + i * step, (long) clear));
        }
        row = more.toString();
        return row.length();
    }

    public int rule(int rule) {
        demand(rule >= 0 && rule <= 2);
        int before = this.rule;
        this.rule = rule;
        return before;
    }

    public int encode() {
        StringBuilder bits = new StringBuilder();
        Map<String, Integer> table = symbols();
        int longest = 1;
        int width = least + 1;
        int k = 0;
        int sinceFull = 0;
        int sinceFullSymbols = 0;
        String left = row;
        write(bits, clear, width);
        int codes = 1;
        int clears = 1;
        while (!left.isEmpty()) {
            boolean full = table.size() + 1 == 4095;
            boolean due = full && rule == 0;
            if (full && rule == 2 && sinceFull == 64) {
                due = sinceFullSymbols < 256;
                keptLooks += due ? 0 : 1;
                sinceFull = 0;
                sinceFullSymbols = 0;
            }
            if (due) {
                write(bits, clear, width);
                codes++;
                clears++;
                table = symbols();
                longest = 1;
                width = least + 1;
                k = 0;
                full = false;
                sinceFull = 0;
                sinceFullSymbols = 0;
            }
            int n = Math.min(longest, left.length());
            while (!table.containsKey(left.substring(0, n))) {
                n--;
            }
            String string = left.substring(0, n);
            write(bits, table.get(string), width);
            codes++;
            k++;
            if (full) {
                sinceFull++;
                sinceFullSymbols += n;
            }
            if (width < 12 && clear + 1 + k == 1 << width) {
                width++;
            }
            left = left.substring(n);
            int number = table.size() + 2;
            if (!left.isEmpty() && number <= 4095) {
                table.put(string + left.charAt(0), number);
                longest = Math.max(longest, n + 1);
            }
        }
        write(bits, end, width);
        coded = new int[] {codes + 1, clears, width, table.size() - clear};
        while (bits.length() % 8 != 0) {
            bits.append('0');
        }
        bytes = new ArrayList<>();
        for (int i = 0; i < bits.length(); i += 8) {
            bytes.add(Integer.parseInt(new StringBuilder(bits.substring(i, i + 8)).reverse().toString(), 2));
        }
        return bytes.size();
    }

    private Map<String, Integer> symbols() {
        Map<String, Integer> table = new HashMap<>();
        for (int i = 0; i < clear; i++) {
            table.put(String.valueOf((char) i), i);
        }
        return table;
    }

    private static void write(StringBuilder bits, int code, int width) {
        for (int i = 0; i < width; i++) {
            bits.append(code >> i & 1);
        }
    }

    public int byteAt(int i) {
        there(i >= 0 && i < bytes.size());
        return bytes.get(i);
    }

    public int coded(int what) {
        return what >= 0 && what < 4 ? coded[what] : -1;
    }

    public int feed(int b) {
        demand(b >= 0 && b <= 255);
        if (waiting.size() == 24000) {
            throw new UnsupportedOperationException();
        }
        waiting.add(b);
        return waiting.size();
    }

    public int pass(int i, int n) {
        there(i >= 0 && i < bytes.size());
        demand(n >= 0);
        List<Integer> some = bytes.subList(i, (int) Math.min((long) i + n, bytes.size()));
        if (waiting.size() + some.size() > 24000) {
            throw new UnsupportedOperationException();
        }
        waiting.addAll(some);
        return some.size();
    }

    public int decode() {
        StringBuilder bits = new StringBuilder();
        for (int b : waiting) {
            write(bits, b, 8);
        }
        waiting = new ArrayList<>();
        StringBuilder out = new StringBuilder();
        int odd = readBits(bits.toString(), out);
        read = out.toString();
        return odd >= 0 ? -1 - odd : read.length();
    }

    private int readBits(String bits, StringBuilder out) {
        Map<Integer, String> table = new HashMap<>();
        String before = null;
        int width = least + 1;
        int k = 0;
        int from = 0;
        while (from + width <= bits.length()) {
            int code = Integer.parseInt(new StringBuilder(bits.substring(from, from + width)).reverse().toString(), 2);
            from += width;
            if (code == end) {
                return -1;
            }
            if (code == clear) {
                table.clear();
                before = null;
                width = least + 1;
                k = 0;
                continue;
            }
            int number = clear + 2 + table.size();
            String string;
            if (code < clear) {
                string = String.valueOf((char) code);
            } else if (table.containsKey(code)) {
                string = table.get(code);
            } else if (before != null && code == number && number <= 4095) {
                string = before + before.charAt(0);
            } else {
                return code;
            }
            if (out.length() + string.length() > 12000) {
                return -1;
            }
            out.append(string);
            if (before != null && number <= 4095) {
                table.put(number, before + string.charAt(0));
            }
            before = string;
            k++;
            if (width < 12 && clear + 1 + k == 1 << width) {
                width++;
            }
        }
        return -1;
    }

    public int at(int i) {
        there(i >= 0 && i < read.length());
        return read.charAt(i);
    }

    public int take() {
        row = read;
        return row.length();
    }

    public int frame(int x, int y, int width, int height, boolean interlaced, int end, int delay) {
        demand(width >= 1 && width <= 24 && height >= 1 && height <= 24);
        demand(x >= 0 && y >= 0 && (long) x + width <= 24 && (long) y + height <= 24);
        demand(end >= 0 && end <= 3 && delay >= 0 && delay <= 1000);
        if (row.length() < width * height) {
            throw new IllegalStateException();
        }
        if (frames.size() == 12) {
            throw new UnsupportedOperationException();
        }
        int[][] picture = new int[height][width];
        int next = 0;
        int[][] passes = interlaced ? new int[][] {{0, 8}, {4, 8}, {2, 4}, {1, 2}} : new int[][] {{0, 1}};
        for (int[] pass : passes) {
            for (int line = pass[0]; line < height; line += pass[1]) {
                for (int i = 0; i < width; i++) {
                    picture[line][i] = row.charAt(next++);
                }
            }
        }
        row = row.substring(next);
        frames.add(new Shape(x, y, width, height, end, delay));
        pictures.add(picture);
        throughs.add(-1);
        colours.add(new HashMap<>());
        return frames.size() - 1;
    }

    public int colour(int frame, int symbol, int rgb) {
        there(frame == -1 || isFrame(frame));
        there(symbol >= 0 && symbol < clear);
        demand(rgb >= -1 && rgb <= 0xFFFFFF);
        Integer before = (frame == -1 ? screen : colours.get(frame)).put(symbol, rgb);
        return before == null ? -1 : before;
    }

    public int through(int frame, int symbol) {
        there(isFrame(frame));
        there(symbol >= -1 && symbol < clear);
        return throughs.set(frame, symbol);
    }

    public int shown(int frame, int x, int y) {
        there(isFrame(frame));
        there(x >= 0 && x < 24 && y >= 0 && y < 24);
        int[][] now = new int[24][24];
        for (int[] line : now) {
            Arrays.fill(line, -1);
        }
        for (int f = 0; f <= frame; f++) {
            int[][] before = new int[24][];
            for (int i = 0; i < 24; i++) {
                before[i] = now[i].clone();
            }
            Shape shape = frames.get(f);
            for (int j = 0; j < shape.height(); j++) {
                for (int i = 0; i < shape.width(); i++) {
                    int symbol = pictures.get(f)[j][i];
                    if (symbol != throughs.get(f)) {
                        now[shape.y() + j][shape.x() + i] = colourOf(f, symbol);
                    }
                }
            }
            if (f < frame && shape.end() == 2) {
                for (int j = 0; j < shape.height(); j++) {
                    Arrays.fill(now[shape.y() + j], shape.x(), shape.x() + shape.width(), -1);
                }
            }
            if (f < frame && shape.end() == 3) {
                now = before;
            }
        }
        return now[y][x];
    }

    private int colourOf(int frame, int symbol) {
        int own = colours.get(frame).getOrDefault(symbol, -1);
        return own == -1 ? screen.getOrDefault(symbol, -1) : own;
    }

    public int symbol(int frame, int x, int y) {
        there(isFrame(frame));
        there(x >= 0 && x < frames.get(frame).width() && y >= 0 && y < frames.get(frame).height());
        return pictures.get(frame)[y][x];
    }

    public int when(int time, int times) {
        demand(time >= 0 && times >= 0);
        List<Integer> round = new ArrayList<>();
        for (int f = 0; f < frames.size(); f++) {
            for (int i = 0; i < frames.get(f).delay(); i++) {
                round.add(f);
            }
        }
        if (round.isEmpty() || times > 0 && time / round.size() >= times) {
            return frames.size() - 1;
        }
        return round.get(time % round.size());
    }

    public int passOf(int row) {
        demand(row >= 0);
        return row % 8 == 0 ? 0 : row % 8 == 4 ? 1 : row % 4 == 2 ? 2 : 3;
    }

    public int told(int what) {
        int[] all = {least, row.length(), waiting.size(), read.length(), frames.size()};
        return what >= 0 && what < all.length ? all[what] : -1;
    }

    private boolean isFrame(int frame) {
        return frame >= 0 && frame < frames.size();
    }

    private static void demand(boolean holds) {
        if (!holds) {
            throw new IllegalArgumentException();
        }
    }

    private static void there(boolean holds) {
        if (!holds) {
            throw new IndexOutOfBoundsException();
        }
    }
}
