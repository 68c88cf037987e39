import java.util.ArrayList;
import java.util.HashMap;
import java.util.List;
import java.util.Map;

/** The document's words again, cell by cell and bit by bit, with no thought for speed or room. */
final class Model {
    private final int width;
    private final int height;
    private boolean[][] page;
    private boolean[][] region;
    private boolean[][][] patterns;
    private int[][] greys;
    private int gx;
    private int gy;
    private int dx;
    private int dy;
    private final int[] ways = new int[3];
    private List<Integer> made;
    private List<Integer> came;
    private int runs;
    private Map<String, Integer> states;
    private Map<String, Integer> uses;
    private double a;
    private int m;
    boolean wroteLong;

    Model(int width, int height) {
        this.width = width < 1 ? 1 : width > 32 ? 32 : width;
        this.height = height < 1 ? 1 : height > 32 ? 32 : height;
        clear();
    }

    void clear() {
        page = new boolean[width][height];
        region = new boolean[width][height];
        patterns = new boolean[1][1][1];
        greys = new int[1][1];
        gx = 0;
        gy = 0;
        dx = 256;
        dy = 0;
        ways[0] = 0;
        ways[1] = 0;
        ways[2] = 0;
        made = new ArrayList<>();
        came = new ArrayList<>();
        runs = 0;
        states = new HashMap<>();
        uses = new HashMap<>();
    }

    int columns() {
        return greys.length;
    }

    int rows() {
        return greys[0].length;
    }

    int many() {
        return patterns.length;
    }

    private int patternWidth() {
        return patterns[0].length;
    }

    private int patternHeight() {
        return patterns[0][0].length;
    }

    private int planes() {
        return many() == 1 ? 0 : Integer.toBinaryString(many() - 1).length();
    }

    int patterns(int w, int h, int many) {
        argument(w >= 1 && w <= 8 && h >= 1 && h <= 8 && many >= 1 && many <= 64);
        patterns = new boolean[many][w][h];
        greys = new int[columns()][rows()];
        return planes();
    }

    int ordered(int side) {
        argument(side >= 1 && side <= 7);
        patterns(side, side, side * side + 1);
        for (int k = 0; k < many(); k++) {
            for (int x = 0; x < side; x++) {
                for (int y = 0; y < side; y++) {
                    patterns[k][x][y] = rank(x, y, side) < k;
                }
            }
        }
        return many();
    }

    private static int rank(int x, int y, int side) {
        int rank = 0;
        for (int u = 0; u < side; u++) {
            for (int v = 0; v < side; v++) {
                rank += key(u, v).compareTo(key(x, y)) < 0 ? 1 : 0;
            }
        }
        return rank;
    }

    private static String key(int x, int y) {
        int d = x ^ y;
        return "" + d % 2 + y % 2 + d / 2 % 2 + y / 2 % 2 + d / 4 + y / 4;
    }

    boolean put(int pattern, int x, int y, boolean on) {
        boolean was = cell(pattern, x, y);
        patterns[pattern][x][y] = on;
        return was != on;
    }

    boolean cell(int pattern, int x, int y) {
        index(pattern >= 0 && pattern < many() && x >= 0 && x < patternWidth() && y >= 0 && y < patternHeight());
        return patterns[pattern][x][y];
    }

    int grid(int columns, int rows, int newGx, int newGy, int newDx, int newDy) {
        argument(columns >= 1 && columns <= 16 && rows >= 1 && rows <= 16);
        argument(newGx >= -65536 && newGx <= 65536 && newGy >= -65536 && newGy <= 65536);
        argument(newDx >= -4096 && newDx <= 4096 && newDy >= -4096 && newDy <= 4096);
        argument(newDx != 0 || newDy != 0);
        greys = new int[columns][rows];
        gx = newGx;
        gy = newGy;
        dx = newDx;
        dy = newDy;
        int many = 0;
        for (int i = 0; i < columns; i++) {
            for (int j = 0; j < rows; j++) {
                many += outside(i, j) ? 1 : 0;
            }
        }
        return many;
    }

    private void place(int i, int j) {
        index(i >= 0 && i < columns() && j >= 0 && j < rows());
    }

    int where(int i, int j, int axis) {
        place(i, j);
        argument(axis == 0 || axis == 1);
        return axis == 0 ? Math.floorDiv(gx + j * dy + i * dx, 256) : Math.floorDiv(gy + j * dx - i * dy, 256);
    }

    private boolean inSheet(int x, int y) {
        return x >= 0 && x < width && y >= 0 && y < height;
    }

    boolean outside(int i, int j) {
        place(i, j);
        for (int u = 0; u < patternWidth(); u++) {
            for (int v = 0; v < patternHeight(); v++) {
                if (inSheet(where(i, j, 0) + u, where(i, j, 1) + v)) {
                    return false;
                }
            }
        }
        return true;
    }

    private boolean skipped(int i, int j) {
        return ways[2] == 1 && outside(i, j);
    }

    boolean grey(int i, int j, int v) {
        place(i, j);
        argument(v >= 0 && v < many());
        boolean other = greys[i][j] != v;
        greys[i][j] = v;
        return other;
    }

    int greyAt(int i, int j) {
        place(i, j);
        return greys[i][j];
    }

    int way(int what, int v) {
        argument(what == 0 || what == 1 || what == 2);
        argument(v >= 0 && v < (what == 0 ? 5 : 2));
        int was = ways[what];
        ways[what] = v;
        return was;
    }

    int row(int y, int bits) {
        index(y >= 0 && y < height);
        int others = 0;
        for (int x = 0; x < width; x++) {
            boolean dark = (bits >> x & 1) == 1;
            others += page[x][y] != dark ? 1 : 0;
            page[x][y] = dark;
        }
        return others;
    }

    int page() {
        int others = 0;
        for (int x = 0; x < width; x++) {
            for (int y = 0; y < height; y++) {
                others += page[x][y] != region[x][y] ? 1 : 0;
                page[x][y] = region[x][y];
            }
        }
        return others;
    }

    private static int dark(boolean[][] samples) {
        int dark = 0;
        for (boolean[] line : samples) {
            for (boolean sample : line) {
                dark += sample ? 1 : 0;
            }
        }
        return dark;
    }

    int count(int i, int j) {
        place(i, j);
        int dark = 0;
        for (int u = 0; u < patternWidth(); u++) {
            for (int v = 0; v < patternHeight(); v++) {
                int x = where(i, j, 0) + u;
                int y = where(i, j, 1) + v;
                dark += inSheet(x, y) && page[x][y] ? 1 : 0;
            }
        }
        return dark;
    }

    int shade() {
        int others = 0;
        for (int i = 0; i < columns(); i++) {
            for (int j = 0; j < rows(); j++) {
                others += grey(i, j, shadeOf(count(i, j))) ? 1 : 0;
            }
        }
        return others;
    }

    private int shadeOf(int count) {
        for (int far = 0; far <= 64; far++) {
            for (int number : new int[] {count - far, count + far}) {
                for (int k = 0; k < many(); k++) {
                    if (dark(patterns[k]) == number) {
                        return k;
                    }
                }
            }
        }
        throw new AssertionError("a pattern always has 0 to 64 dark cells");
    }

    int compose() {
        for (int x = 0; x < width; x++) {
            for (int y = 0; y < height; y++) {
                region[x][y] = ways[1] == 1;
            }
        }
        for (int j = 0; j < rows(); j++) {
            for (int i = 0; i < columns(); i++) {
                lay(where(i, j, 0), where(i, j, 1), patterns[greys[i][j]]);
            }
        }
        return dark(region);
    }

    private void lay(int left, int top, boolean[][] pattern) {
        for (int u = 0; u < patternWidth(); u++) {
            for (int v = 0; v < patternHeight(); v++) {
                int x = left + u;
                int y = top + v;
                if (inSheet(x, y)) {
                    boolean was = region[x][y];
                    boolean laid = pattern[u][v];
                    region[x][y] = switch (ways[0]) {
                        case 0 -> was || laid;
                        case 1 -> was && laid;
                        case 2 -> was != laid;
                        case 3 -> was == laid;
                        default -> laid;
                    };
                }
            }
        }
    }

    boolean at(int x, int y) {
        index(inSheet(x, y));
        return region[x][y];
    }

    private static int bit(int grey, int plane) {
        return grey / (1 << plane) % 2;
    }

    private static int toldAt(int[][] plane, int i, int j) {
        return i < 0 || j < 0 || i >= plane.length || j >= plane[0].length ? 0 : plane[i][j];
    }

    private static String contextAt(int[][] here, int[][] above, int i, int j) {
        return "" + toldAt(here, i - 1, j) + toldAt(here, i - 2, j) + toldAt(here, i - 1, j - 1)
                + toldAt(here, i, j - 1) + toldAt(here, i + 1, j - 1) + toldAt(above, i, j);
    }

    private int foretold(String c) {
        return states.getOrDefault(c, -1) >= 0 ? 1 : 0;
    }

    private void learn(String c, int bit) {
        int state = states.getOrDefault(c, -1);
        if (bit == 1) {
            state = state < 0 ? state + 2 : state + 1;
        } else {
            state = state < 0 ? state - 1 : state - 2;
        }
        states.put(c, state > 7 ? 7 : state < -8 ? -8 : state);
        uses.merge(c, 1, Integer::sum);
    }

    private int k() {
        for (int k = 0; k < 8; k++) {
            if (m * Math.pow(2, k) >= a) {
                return k;
            }
        }
        return 8;
    }

    private void afterRun(int r) {
        a += r;
        m++;
        if (m == 32) {
            a = Math.floor(a / 2);
            m = 16;
        }
    }

    private static String digits(int number, int many) {
        String all = "0".repeat(20) + Integer.toBinaryString(number);
        return all.substring(all.length() - many);
    }

    private String run(int r) {
        int k = k();
        int by = r / (1 << k);
        afterRun(r);
        runs++;
        wroteLong |= by >= 12;
        return by < 12 ? "1".repeat(by) + "0" + digits(r, k) : "1".repeat(12) + digits(r, 13);
    }

    private void beginBits() {
        a = 4;
        m = 1;
        runs = 0;
        states.clear();
        uses.clear();
    }

    int encode() {
        beginBits();
        StringBuilder bits = new StringBuilder();
        int r = 0;
        int[][] above = new int[columns()][rows()];
        for (int plane = planes() - 1; plane >= 0; plane--) {
            states.clear();
            uses.clear();
            int[][] here = new int[columns()][rows()];
            for (int j = 0; j < rows(); j++) {
                for (int i = 0; i < columns(); i++) {
                    if (skipped(i, j)) {
                        continue;
                    }
                    here[i][j] = (bit(greys[i][j], plane) + bit(greys[i][j], plane + 1)) % 2;
                    String c = contextAt(here, above, i, j);
                    if (foretold(c) == here[i][j]) {
                        r++;
                    } else {
                        bits.append(run(r));
                        r = 0;
                    }
                    learn(c, here[i][j]);
                }
            }
            above = here;
        }
        bits.append(run(r));
        while (bits.length() % 8 != 0) {
            bits.append('0');
        }
        made = new ArrayList<>();
        for (int at = 0; at < bits.length(); at += 8) {
            made.add(Integer.parseInt(bits.substring(at, at + 8), 2));
        }
        return made.size();
    }

    int byteAt(int i) {
        index(i >= 0 && i < made.size());
        return made.get(i);
    }

    int feed(int b) {
        argument(b >= 0 && b <= 255);
        room(came.size() < 3000);
        came.add(b);
        return came.size();
    }

    int pass() {
        room(came.size() + made.size() <= 3000);
        came.addAll(made);
        return came.size();
    }

    /** Carries the number of a refusal out of the reading. */
    private static final class Refusal extends Exception {
        private static final long serialVersionUID = 1L;
        private final int number;

        Refusal(int number) {
            this.number = number;
        }
    }

    private StringBuilder unread;

    private String next(int many) throws Refusal {
        if (unread.length() < many) {
            throw new Refusal(1);
        }
        String bits = unread.substring(0, many);
        unread.delete(0, many);
        return bits;
    }

    private static int number(String digits) {
        return digits.isEmpty() ? 0 : Integer.parseInt(digits, 2);
    }

    private int nextRun(int left) throws Refusal {
        int k = k();
        int ones = 0;
        while (ones < 12 && next(1).equals("1")) {
            ones++;
        }
        int r = ones == 12 ? number(next(13)) : (ones << k) + number(next(k));
        runs++;
        if (r > left) {
            throw new Refusal(2);
        }
        afterRun(r);
        return r;
    }

    int decode() {
        beginBits();
        unread = new StringBuilder();
        for (int b : came) {
            unread.append(digits(b, 8));
        }
        came = new ArrayList<>();
        int places = 0;
        for (int i = 0; i < columns(); i++) {
            for (int j = 0; j < rows(); j++) {
                places += skipped(i, j) ? 0 : 1;
            }
        }
        try {
            greys = greysRead(places * planes());
            return places;
        } catch (Refusal refusal) {
            return -1 - refusal.number;
        }
    }

    private int[][] greysRead(int bitsInAll) throws Refusal {
        int left = bitsInAll;
        boolean atHand = false;
        int asForetold = 0;
        int[][] read = new int[columns()][rows()];
        int[][] above = new int[columns()][rows()];
        for (int plane = planes() - 1; plane >= 0; plane--) {
            states.clear();
            uses.clear();
            int[][] here = new int[columns()][rows()];
            for (int j = 0; j < rows(); j++) {
                for (int i = 0; i < columns(); i++) {
                    if (skipped(i, j)) {
                        continue;
                    }
                    if (!atHand) {
                        asForetold = nextRun(left);
                        atHand = true;
                    }
                    String c = contextAt(here, above, i, j);
                    here[i][j] = asForetold > 0 ? foretold(c) : 1 - foretold(c);
                    atHand = asForetold > 0;
                    asForetold--;
                    left--;
                    learn(c, here[i][j]);
                    read[i][j] = 2 * read[i][j] + (here[i][j] + read[i][j]) % 2;
                }
            }
            above = here;
        }
        if (!atHand) {
            nextRun(0);
        }
        if (unread.length() >= 8 || unread.indexOf("1") >= 0) {
            throw new Refusal(3);
        }
        for (int[] column : read) {
            for (int grey : column) {
                if (grey >= many()) {
                    throw new Refusal(4);
                }
            }
        }
        return read;
    }

    int context(int c, int what) {
        index(c >= 0 && c < 64);
        argument(what == 0 || what == 1);
        String six = digits(c, 6);
        return what == 0 ? states.getOrDefault(six, -1) : uses.getOrDefault(six, 0);
    }

    int told(int what) {
        return switch (what) {
            case 0 -> width;
            case 1 -> height;
            case 2 -> many();
            case 3 -> patternWidth();
            case 4 -> patternHeight();
            case 5 -> planes();
            case 6 -> columns();
            case 7 -> rows();
            case 8 -> made.size();
            case 9 -> came.size();
            case 10 -> dark(page);
            case 11 -> runs;
            default -> -1;
        };
    }

    private static void argument(boolean right) {
        if (!right) {
            throw new IllegalArgumentException();
        }
    }

    private static void index(boolean right) {
        if (!right) {
            throw new IndexOutOfBoundsException();
        }
    }

    private static void room(boolean right) {
        if (!right) {
            throw new UnsupportedOperationException();
        }
    }
}
