/** The object that a test calls. It counts the calls: what an object answers behind the 512th one is free. */
final class Subject {
    private static final int MOST_CALLS = 512;

    private final HalftoneRegions object;
    private int calls;

    Subject(int width, int height) {
        object = new HalftoneRegions(width, height);
    }

    private HalftoneRegions called() {
        calls++;
        if (calls > MOST_CALLS) {
            throw new AssertionError("this test calls one object more than " + MOST_CALLS + " times");
        }
        return object;
    }

    int patterns(int width, int height, int many) {
        return called().patterns(width, height, many);
    }

    int ordered(int side) {
        return called().ordered(side);
    }

    boolean put(int pattern, int x, int y, boolean on) {
        return called().put(pattern, x, y, on);
    }

    boolean cell(int pattern, int x, int y) {
        return called().cell(pattern, x, y);
    }

    int grid(int columns, int rows, int gx, int gy, int dx, int dy) {
        return called().grid(columns, rows, gx, gy, dx, dy);
    }

    int where(int i, int j, int axis) {
        return called().where(i, j, axis);
    }

    boolean outside(int i, int j) {
        return called().outside(i, j);
    }

    boolean grey(int i, int j, int v) {
        return called().grey(i, j, v);
    }

    int greyAt(int i, int j) {
        return called().greyAt(i, j);
    }

    int way(int what, int v) {
        return called().way(what, v);
    }

    int row(int y, int bits) {
        return called().row(y, bits);
    }

    int page() {
        return called().page();
    }

    int count(int i, int j) {
        return called().count(i, j);
    }

    int shade() {
        return called().shade();
    }

    int compose() {
        return called().compose();
    }

    boolean at(int x, int y) {
        return called().at(x, y);
    }

    int encode() {
        return called().encode();
    }

    int byteAt(int i) {
        return called().byteAt(i);
    }

    int feed(int b) {
        return called().feed(b);
    }

    int pass() {
        return called().pass();
    }

    int decode() {
        return called().decode();
    }

    int context(int c, int what) {
        return called().context(c, what);
    }

    int told(int what) {
        return called().told(what);
    }

    void clear() {
        called().clear();
    }

    /** Bytes that come, and what reading them answers. */
    int read(int... bytes) {
        for (int b : bytes) {
            feed(b);
        }
        return decode();
    }

    /** The same with bits told as text, zeros behind them. */
    int readBits(String bits) {
        return read(Bits.bytes(bits));
    }

    /** The bytes that the greys become, as text. */
    String written() {
        encode();
        return made();
    }

    String made() {
        StringBuilder all = new StringBuilder();
        int many = told(8);
        for (int i = 0; i < many; i++) {
            all.append(i == 0 ? "" : " ").append(byteAt(i));
        }
        return all.toString();
    }

    String greys() {
        StringBuilder all = new StringBuilder();
        int columns = told(6);
        int rows = told(7);
        for (int j = 0; j < rows; j++) {
            for (int i = 0; i < columns; i++) {
                all.append(all.length() == 0 ? "" : " ").append(greyAt(i, j));
            }
        }
        return all.toString();
    }

    /** Greys for all places, row by row. */
    void setGreys(int... all) {
        int columns = told(6);
        for (int n = 0; n < all.length; n++) {
            grey(n % columns, n / columns, all[n]);
        }
    }

    String counts() {
        StringBuilder all = new StringBuilder();
        int columns = told(6);
        int rows = told(7);
        for (int j = 0; j < rows; j++) {
            for (int i = 0; i < columns; i++) {
                all.append(all.length() == 0 ? "" : " ").append(count(i, j));
            }
        }
        return all.toString();
    }

    String places() {
        StringBuilder all = new StringBuilder();
        int columns = told(6);
        int rows = told(7);
        for (int j = 0; j < rows; j++) {
            for (int i = 0; i < columns; i++) {
                all.append(where(i, j, 0)).append(',').append(where(i, j, 1)).append(outside(i, j) ? "x " : " ");
            }
        }
        return all.toString().trim();
    }

    String region() {
        StringBuilder all = new StringBuilder();
        int width = told(0);
        int height = told(1);
        for (int y = 0; y < height; y++) {
            all.append(y == 0 ? "" : "/");
            for (int x = 0; x < width; x++) {
                all.append(at(x, y) ? '#' : '.');
            }
        }
        return all.toString();
    }

    String pattern(int k) {
        StringBuilder all = new StringBuilder();
        int width = told(3);
        int height = told(4);
        for (int y = 0; y < height; y++) {
            all.append(y == 0 ? "" : "/");
            for (int x = 0; x < width; x++) {
                all.append(cell(k, x, y) ? '#' : '.');
            }
        }
        return all.toString();
    }

    String toldAll() {
        StringBuilder all = new StringBuilder();
        for (int what = 0; what <= 11; what++) {
            all.append(what == 0 ? "" : " ").append(told(what));
        }
        return all.toString();
    }

    /** The contexts that are not as when a plane begins: number, state and how many bits, as 4:-2*1. */
    String contexts() {
        StringBuilder all = new StringBuilder();
        for (int c = 0; c < 64; c++) {
            int state = context(c, 0);
            int bits = context(c, 1);
            if (state != -1 || bits != 0) {
                all.append(c).append(':').append(state).append('*').append(bits).append(' ');
            }
        }
        return all.toString().trim();
    }

    /** The operator, the background and whether places are skipped, as three digits. */
    String ways() {
        StringBuilder all = new StringBuilder();
        for (int what = 0; what <= 2; what++) {
            int was = way(what, 0);
            way(what, was);
            all.append(was);
        }
        return all.toString();
    }

    /** The left upper samples of the page, 16 by 16 at most, by their counts: patterns and grid are others then. */
    String samples() {
        int columns = Math.min(16, told(0));
        int rows = Math.min(16, told(1));
        patterns(1, 1, 1);
        grid(columns, rows, 0, 0, 256, 0);
        return counts();
    }

    /**
     * All that can be looked at, and then what later calls make of it: bytes that came, the page and the ways are
     * seen by those alone. For a small object; it is not to be used behind this.
     */
    String everything() {
        StringBuilder all = new StringBuilder(toldAll());
        all.append('|').append(greys()).append('|').append(places()).append('|').append(counts());
        all.append('|').append(region()).append('|').append(made()).append('|').append(contexts());
        int many = told(2);
        for (int k = 0; k < many; k++) {
            all.append('|').append(pattern(k));
        }
        all.append("|composed ").append(compose()).append(' ').append(region());
        all.append("|read ").append(decode()).append(' ').append(greys());
        all.append("|written ").append(written());
        all.append("|ways ").append(way(0, 0)).append(way(1, 0)).append(way(2, 0));
        all.append("|page ").append(samples());
        return all.toString();
    }
}
