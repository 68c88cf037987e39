import java.util.Arrays;

/** A page told by patterns on a grid, and the picture of greys that says which pattern stands where. */
public final class HalftoneRegions {
    public static final int NONE = -1;

    private static final int MOST_SAMPLES = 32;
    private static final int MOST_CELLS = 8;
    private static final int MOST_PATTERNS = 64;
    private static final int MOST_ORDERED_SIDE = 7;
    private static final int MOST_LINES = 16;
    private static final int MOST_SHIFT = 65536;
    private static final int MOST_STEP = 4096;
    private static final int CONTEXTS = 64;
    private static final int BYTES_THAT_COME = 3000;
    // The dearest 1536 bits (256 places, 6 planes) are written in 3010 bits, 377 bytes.
    private static final int BYTES_THAT_ARE_MADE = 384;

    private static final int OR = 0;
    private static final int AND = 1;
    private static final int DIFFER = 2;
    private static final int SAME = 3;
    private static final int REPLACE = 4;

    private static final int ACCEPTED = 0;
    private static final int BITS_END = 1;
    private static final int RUN_TOO_LONG = 2;
    private static final int MORE_BEHIND_END = 3;
    private static final int NO_SUCH_GREY = 4;

    private static final int MOST_ONES = 12;
    private static final int LONG_RUN_BITS = 13;

    private final int width;
    private final int height;
    private final Sheet paper;
    private final Sheet region;
    private final PatternSet book;
    private final Lattice lattice;
    private final Codes codes;
    private final Forecast forecast;
    private final RunWriter writer;
    private final RunReader reader;
    private final int[] nearest;
    private int operator;
    private int background;
    private int skipping;
    private int runs;

    public HalftoneRegions(int width, int height) {
        this.width = Math.max(1, Math.min(MOST_SAMPLES, width));
        this.height = Math.max(1, Math.min(MOST_SAMPLES, height));
        paper = new Sheet(this.width, this.height);
        region = new Sheet(this.width, this.height);
        book = new PatternSet();
        lattice = new Lattice();
        codes = new Codes();
        forecast = new Forecast();
        writer = new RunWriter();
        reader = new RunReader();
        nearest = new int[MOST_CELLS * MOST_CELLS + 1];
    }

    public int patterns(int width, int height, int many) throws IllegalArgumentException {
        if (!isWithin(width, 1, MOST_CELLS) || !isWithin(height, 1, MOST_CELLS)) {
            throw new IllegalArgumentException("a pattern's width and height are 1 to 8");
        }
        if (!isWithin(many, 1, MOST_PATTERNS)) {
            throw new IllegalArgumentException("there are 1 to 64 patterns");
        }
        book.begin(width, height, many);
        lattice.forgetGreys();
        return book.planes();
    }

    public int ordered(int side) throws IllegalArgumentException {
        if (!isWithin(side, 1, MOST_ORDERED_SIDE)) {
            throw new IllegalArgumentException("a side is 1 to 7");
        }
        book.beginOrdered(side);
        lattice.forgetGreys();
        return book.many;
    }

    public boolean put(int pattern, int x, int y, boolean on) throws IndexOutOfBoundsException {
        if (!book.has(pattern, x, y)) {
            throw new IndexOutOfBoundsException("no such cell");
        }
        boolean other = book.isDark(pattern, x, y) != on;
        if (other) {
            book.turn(pattern, x, y);
        }
        return other;
    }

    public boolean cell(int pattern, int x, int y) throws IndexOutOfBoundsException {
        if (!book.has(pattern, x, y)) {
            throw new IndexOutOfBoundsException("no such cell");
        }
        return book.isDark(pattern, x, y);
    }

    public int grid(int columns, int rows, int gx, int gy, int dx, int dy) throws IllegalArgumentException {
        if (!isWithin(columns, 1, MOST_LINES) || !isWithin(rows, 1, MOST_LINES)) {
            throw new IllegalArgumentException("there are 1 to 16 columns and rows");
        }
        if (!isWithin(gx, -MOST_SHIFT, MOST_SHIFT) || !isWithin(gy, -MOST_SHIFT, MOST_SHIFT)) {
            throw new IllegalArgumentException("gx and gy are -65536 to 65536");
        }
        if (!isWithin(dx, -MOST_STEP, MOST_STEP) || !isWithin(dy, -MOST_STEP, MOST_STEP)) {
            throw new IllegalArgumentException("dx and dy are -4096 to 4096");
        }
        if (dx == 0 && dy == 0) {
            throw new IllegalArgumentException("dx and dy are both 0");
        }
        lattice.begin(columns, rows);
        lattice.turnTo(gx, gy, dx, dy);
        return placesOutside();
    }

    public int where(int i, int j, int axis) throws IndexOutOfBoundsException, IllegalArgumentException {
        if (!lattice.has(i, j)) {
            throw new IndexOutOfBoundsException("no such place");
        }
        if (!isWithin(axis, 0, 1)) {
            throw new IllegalArgumentException("an axis is 0 or 1");
        }
        return axis == 0 ? lattice.leftOf(i, j) : lattice.topOf(i, j);
    }

    public boolean outside(int i, int j) throws IndexOutOfBoundsException {
        if (!lattice.has(i, j)) {
            throw new IndexOutOfBoundsException("no such place");
        }
        return isOutside(i, j);
    }

    public boolean grey(int i, int j, int v) throws IndexOutOfBoundsException, IllegalArgumentException {
        if (!lattice.has(i, j)) {
            throw new IndexOutOfBoundsException("no such place");
        }
        if (!book.hasPattern(v)) {
            throw new IllegalArgumentException("no such pattern");
        }
        return lattice.changeGrey(i, j, v);
    }

    public int greyAt(int i, int j) throws IndexOutOfBoundsException {
        if (!lattice.has(i, j)) {
            throw new IndexOutOfBoundsException("no such place");
        }
        return lattice.greyOf(i, j);
    }

    public int way(int what, int v) throws IllegalArgumentException {
        if (!isWithin(what, 0, 2)) {
            throw new IllegalArgumentException("a way is 0 to 2");
        }
        if (!isWithin(v, 0, what == 0 ? REPLACE : 1)) {
            throw new IllegalArgumentException("no such way");
        }
        return changeWay(what, v);
    }

    public int row(int y, int bits) throws IndexOutOfBoundsException {
        if (!isWithin(y, 0, height - 1)) {
            throw new IndexOutOfBoundsException("no such row");
        }
        return paper.changeLine(y, bits);
    }

    public int page() {
        int others = 0;
        for (int y = 0; y < height; y++) {
            others += paper.changeLine(y, region.line(y));
        }
        return others;
    }

    public int count(int i, int j) throws IndexOutOfBoundsException {
        if (!lattice.has(i, j)) {
            throw new IndexOutOfBoundsException("no such place");
        }
        return darkUnder(i, j);
    }

    public int shade() {
        for (int dark = 0; dark < nearest.length; dark++) {
            nearest[dark] = book.nearestTo(dark);
        }
        int others = 0;
        for (int j = 0; j < lattice.rows; j++) {
            for (int i = 0; i < lattice.columns; i++) {
                int dark = darkUnder(i, j);
                if (isWithin(dark, 0, nearest.length - 1) && lattice.changeGrey(i, j, nearest[dark])) {
                    others++;
                }
            }
        }
        return others;
    }

    public int compose() {
        region.fill(background == 1);
        for (int j = 0; j < lattice.rows; j++) {
            for (int i = 0; i < lattice.columns; i++) {
                if (!isOutside(i, j)) {
                    layPattern(i, j);
                }
            }
        }
        return region.darkSamples();
    }

    public boolean at(int x, int y) throws IndexOutOfBoundsException {
        if (!isWithin(x, 0, width - 1) || !isWithin(y, 0, height - 1)) {
            throw new IndexOutOfBoundsException("no such sample");
        }
        return (region.line(y) >>> x & 1) == 1;
    }

    public int encode() {
        codes.begin();
        for (int j = 0; j < lattice.rows; j++) {
            for (int i = 0; i < lattice.columns; i++) {
                if (!isSkipped(i, j)) {
                    codes.setGrey(i, j, lattice.greyOf(i, j));
                }
            }
        }
        writer.begin();
        forecast.beginPlane();
        for (int plane = book.planes() - 1; plane >= 0; plane--) {
            writePlane(plane);
        }
        writer.endRun();
        runs = writer.runs;
        return writer.size();
    }

    public int byteAt(int i) throws IndexOutOfBoundsException {
        if (!isWithin(i, 0, writer.size() - 1)) {
            throw new IndexOutOfBoundsException("no such byte");
        }
        return writer.made(i);
    }

    public int feed(int b) throws IllegalArgumentException, UnsupportedOperationException {
        if (!isWithin(b, 0, 255)) {
            throw new IllegalArgumentException("a byte is 0 to 255");
        }
        if (!reader.hasRoomFor(1)) {
            throw new UnsupportedOperationException("no room for a byte");
        }
        reader.take(b);
        return reader.came;
    }

    public int pass() throws UnsupportedOperationException {
        int size = writer.size();
        if (!reader.hasRoomFor(size)) {
            throw new UnsupportedOperationException("no room for these bytes");
        }
        for (int i = 0; i < size; i++) {
            reader.take(writer.made(i));
        }
        return reader.came;
    }

    public int decode() {
        int places = lattice.columns * lattice.rows - (skipping == 1 ? placesOutside() : 0);
        codes.begin();
        reader.begin(places * book.planes());
        forecast.beginPlane();
        for (int plane = book.planes() - 1; plane >= 0 && reader.refused == ACCEPTED; plane--) {
            readPlane(plane);
        }
        reader.end();
        runs = reader.runs;
        int refused = reader.refused;
        if (refused == ACCEPTED && codes.greatestGrey() >= book.many) {
            refused = NO_SUCH_GREY;
        }
        reader.forgetBytes();
        if (refused != ACCEPTED) {
            return -1 - refused;
        }
        takeGreys();
        return places;
    }

    public int context(int c, int what) throws IndexOutOfBoundsException, IllegalArgumentException {
        if (!isWithin(c, 0, CONTEXTS - 1)) {
            throw new IndexOutOfBoundsException("no such context");
        }
        if (!isWithin(what, 0, 1)) {
            throw new IllegalArgumentException("a context tells 0 or 1");
        }
        return what == 0 ? forecast.states[c] : forecast.uses[c];
    }

    public int told(int what) {
        switch (what) {
            case 0: return width;
            case 1: return height;
            case 2: return book.many;
            case 3: return book.width;
            case 4: return book.height;
            case 5: return book.planes();
            case 6: return lattice.columns;
            case 7: return lattice.rows;
            case 8: return writer.size();
            case 9: return reader.came;
            case 10: return paper.darkSamples();
            case 11: return runs;
            default: return NONE;
        }
    }

    public void clear() {
        paper.fill(false);
        region.fill(false);
        book.begin(1, 1, 1);
        lattice.begin(1, 1);
        lattice.turnTo(0, 0, 256, 0);
        forecast.beginPlane();
        writer.begin();
        reader.forgetBytes();
        operator = OR;
        background = 0;
        skipping = 0;
        runs = 0;
    }

    private static boolean isWithin(int number, int least, int most) {
        return number >= least && number <= most;
    }

    /** Where a place is held in a row of all places; NONE for what no grid has. */
    private static int placeOf(int i, int j) {
        boolean held = isWithin(i, 0, MOST_LINES - 1) && isWithin(j, 0, MOST_LINES - 1);
        return held ? MOST_LINES * j + i : NONE;
    }

    private boolean isOutside(int i, int j) {
        int left = lattice.leftOf(i, j);
        int top = lattice.topOf(i, j);
        return left >= width || left + book.width <= 0 || top >= height || top + book.height <= 0;
    }

    private boolean isSkipped(int i, int j) {
        return skipping == 1 && isOutside(i, j);
    }

    private int placesOutside() {
        int places = 0;
        for (int j = 0; j < lattice.rows; j++) {
            for (int i = 0; i < lattice.columns; i++) {
                if (isOutside(i, j)) {
                    places++;
                }
            }
        }
        return places;
    }

    private int changeWay(int what, int v) {
        int before;
        if (what == 0) {
            before = operator;
            operator = v;
        } else if (what == 1) {
            before = background;
            background = v;
        } else {
            before = skipping;
            skipping = v;
        }
        return before;
    }

    private int darkUnder(int i, int j) {
        if (isOutside(i, j)) {
            return 0;
        }
        int top = lattice.topOf(i, j);
        int columns = columnsUnder(lattice.leftOf(i, j));
        int dark = 0;
        for (int y = Math.max(0, top); y < Math.min(height, top + book.height); y++) {
            dark += Integer.bitCount(paper.line(y) & columns);
        }
        return dark;
    }

    /** The columns of a sheet that a pattern covers whose first column comes to left. */
    private int columnsUnder(int left) {
        return moved((1 << book.width) - 1, left) & paper.mask;
    }

    /** For columns -7 .. 31 alone: a pattern that is not outside begins at one of these. */
    private static int moved(int bits, int column) {
        return column >= 0 ? bits << column : bits >>> -column;
    }

    private void layPattern(int i, int j) {
        int left = lattice.leftOf(i, j);
        int top = lattice.topOf(i, j);
        int columns = columnsUnder(left);
        int pattern = lattice.greyOf(i, j);
        for (int y = Math.max(0, top); y < Math.min(height, top + book.height); y++) {
            int laid = moved(book.line(pattern, y - top), left) & columns;
            region.changeLine(y, combined(region.line(y), laid, columns));
        }
    }

    /** Under the operators AND, SAME and REPLACE a light sample counts too, but only in the columns it is laid on. */
    private int combined(int line, int laid, int columns) {
        switch (operator) {
            case AND: return line & (laid | ~columns);
            case DIFFER: return line ^ laid;
            case SAME: return line ^ laid ^ columns;
            case REPLACE: return line & ~columns | laid;
            default: return line | laid;
        }
    }

    private void writePlane(int plane) {
        forecast.beginPlane();
        for (int j = 0; j < lattice.rows; j++) {
            for (int i = 0; i < lattice.columns; i++) {
                if (!isSkipped(i, j)) {
                    int c = codes.contextOf(i, j, plane);
                    int bit = codes.bitOf(i, j, plane);
                    writer.tell(bit == forecast.foretold(c));
                    forecast.learn(c, bit);
                }
            }
        }
    }

    private void readPlane(int plane) {
        forecast.beginPlane();
        for (int j = 0; j < lattice.rows; j++) {
            for (int i = 0; i < lattice.columns; i++) {
                if (!isSkipped(i, j)) {
                    int c = codes.contextOf(i, j, plane);
                    int bit = reader.nextBit(forecast.foretold(c));
                    if (reader.refused != ACCEPTED) {
                        return;
                    }
                    codes.addBit(i, j, plane, bit);
                    forecast.learn(c, bit);
                }
            }
        }
    }

    private void takeGreys() {
        for (int j = 0; j < lattice.rows; j++) {
            for (int i = 0; i < lattice.columns; i++) {
                lattice.changeGrey(i, j, codes.greyOf(i, j));
            }
        }
    }

    /** Samples, a line of them in an int, bit x for column x. */
    private static final class Sheet {
        private final int[] lines;
        private final int mask;

        Sheet(int width, int height) {
            lines = new int[height >= 1 ? height : 1];
            mask = width >= MOST_SAMPLES ? -1 : (1 << width) - 1;
        }

        int line(int y) {
            return isWithin(y, 0, lines.length - 1) ? lines[y] : 0;
        }

        int changeLine(int y, int bits) {
            if (!isWithin(y, 0, lines.length - 1)) {
                return 0;
            }
            int others = Integer.bitCount((lines[y] ^ bits) & mask);
            lines[y] = bits & mask;
            return others;
        }

        void fill(boolean dark) {
            Arrays.fill(lines, dark ? mask : 0);
        }

        int darkSamples() {
            int dark = 0;
            for (int y = 0; y < lines.length; y++) {
                dark += Integer.bitCount(lines[y]);
            }
            return dark;
        }
    }

    /** Patterns, each in a long, bit 8 y + x for its cell (x, y). */
    private static final class PatternSet {
        private final long[] cells;
        private int width;
        private int height;
        private int many;

        PatternSet() {
            cells = new long[MOST_PATTERNS];
            width = 1;
            height = 1;
            many = 1;
        }

        void begin(int newWidth, int newHeight, int newMany) {
            width = newWidth;
            height = newHeight;
            many = newMany;
            Arrays.fill(cells, 0L);
        }

        void beginOrdered(int side) {
            begin(side, side, side * side + 1);
            for (int y = 0; y < side; y++) {
                for (int x = 0; x < side; x++) {
                    for (int k = rankOf(x, y) + 1; k < many; k++) {
                        turn(k, x, y);
                    }
                }
            }
        }

        private int rankOf(int x, int y) {
            int key = keyOf(x, y);
            int rank = 0;
            for (int v = 0; v < height; v++) {
                for (int u = 0; u < width; u++) {
                    if (keyOf(u, v) < key) {
                        rank++;
                    }
                }
            }
            return rank;
        }

        private static int keyOf(int x, int y) {
            int key = 0;
            for (int bit = 0; bit < 3; bit++) {
                key = key << 2 | ((x ^ y) >> bit & 1) << 1 | y >> bit & 1;
            }
            return key;
        }

        boolean hasPattern(int pattern) {
            return isWithin(pattern, 0, many - 1);
        }

        boolean has(int pattern, int x, int y) {
            return hasPattern(pattern) && isWithin(x, 0, width - 1) && isWithin(y, 0, height - 1);
        }

        boolean isDark(int pattern, int x, int y) {
            return (line(pattern, y) >> x & 1) == 1;
        }

        void turn(int pattern, int x, int y) {
            if (isWithin(pattern, 0, cells.length - 1)) {
                cells[pattern] ^= 1L << MOST_CELLS * y + x;
            }
        }

        int line(int pattern, int y) {
            return isWithin(pattern, 0, cells.length - 1) ? (int) (cells[pattern] >>> MOST_CELLS * y) & 0xFF : 0;
        }

        int planes() {
            int planes = 0;
            for (int rest = many - 1; rest > 0; rest >>= 1) {
                planes++;
            }
            return planes;
        }

        /** The first of those patterns whose number of dark cells is nearest, the lesser number of two. */
        int nearestTo(int dark) {
            int best = 0;
            for (int pattern = 1; pattern < many && pattern < cells.length; pattern++) {
                if (farness(pattern, dark) < farness(best, dark)) {
                    best = pattern;
                }
            }
            return best;
        }

        /** Of two numbers that are equally far, the one above counts as farther. */
        private int farness(int pattern, int dark) {
            int more = Long.bitCount(cells[pattern]) - dark;
            return more > 0 ? 2 * more + 1 : -2 * more;
        }
    }

    /** The grid, and the grey of each of its places. */
    private static final class Lattice {
        private final int[] greys;
        private int columns;
        private int rows;
        private int gx;
        private int gy;
        private int dx;
        private int dy;

        Lattice() {
            greys = new int[MOST_LINES * MOST_LINES];
            columns = 1;
            rows = 1;
            dx = 256;
        }

        void begin(int newColumns, int newRows) {
            columns = newColumns;
            rows = newRows;
            forgetGreys();
        }

        void turnTo(int newGx, int newGy, int newDx, int newDy) {
            gx = newGx;
            gy = newGy;
            dx = newDx;
            dy = newDy;
        }

        void forgetGreys() {
            Arrays.fill(greys, 0);
        }

        boolean has(int i, int j) {
            return isWithin(i, 0, columns - 1) && isWithin(j, 0, rows - 1);
        }

        int leftOf(int i, int j) {
            return gx + j * dy + i * dx >> 8;
        }

        int topOf(int i, int j) {
            return gy + j * dx - i * dy >> 8;
        }

        int greyOf(int i, int j) {
            int place = placeOf(i, j);
            return place == NONE ? 0 : greys[place];
        }

        boolean changeGrey(int i, int j, int grey) {
            int place = placeOf(i, j);
            if (place == NONE) {
                return false;
            }
            boolean other = greys[place] != grey;
            greys[place] = grey;
            return other;
        }
    }

    /** The bits told of each place, those of all its planes in an int: 0 where none are told, as contexts want it. */
    private static final class Codes {
        private final int[] bits;

        Codes() {
            bits = new int[MOST_LINES * MOST_LINES];
        }

        void begin() {
            Arrays.fill(bits, 0);
        }

        void setGrey(int i, int j, int grey) {
            int place = placeOf(i, j);
            if (place != NONE) {
                bits[place] = grey ^ grey >> 1;
            }
        }

        void addBit(int i, int j, int plane, int bit) {
            int place = placeOf(i, j);
            if (place != NONE) {
                bits[place] |= bit << plane;
            }
        }

        int bitOf(int i, int j, int plane) {
            int place = placeOf(i, j);
            return place == NONE ? 0 : bits[place] >> plane & 1;
        }

        int contextOf(int i, int j, int plane) {
            int left = bitOf(i - 1, j, plane) << 5 | bitOf(i - 2, j, plane) << 4;
            int above = bitOf(i - 1, j - 1, plane) << 3 | bitOf(i, j - 1, plane) << 2 | bitOf(i + 1, j - 1, plane) << 1;
            return left | above | bitOf(i, j, plane + 1);
        }

        int greyOf(int i, int j) {
            int place = placeOf(i, j);
            return place == NONE ? 0 : greyOfCode(bits[place]);
        }

        private static int greyOfCode(int code) {
            // Each bit is the xor of all from the highest one down to it; six bits need three steps.
            int grey = code ^ code >> 1;
            grey ^= grey >> 2;
            return grey ^ grey >> 4;
        }

        int greatestGrey() {
            int greatest = 0;
            for (int place = 0; place < bits.length; place++) {
                greatest = Math.max(greatest, greyOfCode(bits[place]));
            }
            return greatest;
        }
    }

    /** What each context foretells, and how often it did so in the plane at hand. */
    private static final class Forecast {
        private final int[] states;
        private final int[] uses;

        Forecast() {
            states = new int[CONTEXTS];
            uses = new int[CONTEXTS];
            Arrays.fill(states, -1);
        }

        void beginPlane() {
            Arrays.fill(states, -1);
            Arrays.fill(uses, 0);
        }

        int foretold(int c) {
            return isWithin(c, 0, CONTEXTS - 1) && states[c] >= 0 ? 1 : 0;
        }

        void learn(int c, int bit) {
            if (!isWithin(c, 0, CONTEXTS - 1)) {
                return;
            }
            int state = states[c];
            if (bit == 1) {
                states[c] = Math.min(7, state < 0 ? state + 2 : state + 1);
            } else {
                states[c] = Math.max(-8, state < 0 ? state - 1 : state - 2);
            }
            uses[c]++;
        }
    }

    /** How long runs were of late, which says how many of a run's lowest bits are written as they are. */
    private static final class Pace {
        private int sum;
        private int number;

        void begin() {
            sum = 4;
            number = 1;
        }

        int lowBits() {
            int k = 0;
            while (k < 8 && number << k < sum) {
                k++;
            }
            return k;
        }

        void learn(int run) {
            sum += run;
            number++;
            if (number == 32) {
                sum >>= 1;
                number >>= 1;
            }
        }
    }

    /** Makes bytes of bits that were or were not as foretold. */
    private static final class RunWriter {
        private final byte[] bytes;
        private final Pace pace;
        private int bits;
        private int run;
        private int runs;

        RunWriter() {
            bytes = new byte[BYTES_THAT_ARE_MADE];
            pace = new Pace();
        }

        void begin() {
            Arrays.fill(bytes, (byte) 0);
            pace.begin();
            bits = 0;
            run = 0;
            runs = 0;
        }

        void tell(boolean asForetold) {
            if (asForetold) {
                run++;
            } else {
                endRun();
            }
        }

        void endRun() {
            int k = pace.lowBits();
            int ones = run >> k;
            if (ones < MOST_ONES) {
                write((1 << ones) - 1 << 1, ones + 1);
                write(run, k);
            } else {
                write((1 << MOST_ONES) - 1, MOST_ONES);
                write(run, LONG_RUN_BITS);
            }
            pace.learn(run);
            run = 0;
            runs++;
        }

        private void write(int number, int many) {
            for (int bit = many - 1; bit >= 0; bit--) {
                int i = bits >> 3;
                if (isWithin(i, 0, bytes.length - 1)) {
                    bytes[i] |= (number >> bit & 1) << 7 - (bits & 7);
                    bits++;
                }
            }
        }

        int size() {
            return bits + 7 >> 3;
        }

        int made(int i) {
            return isWithin(i, 0, bytes.length - 1) ? bytes[i] & 0xFF : 0;
        }
    }

    /** Reads bytes that came as bits that are or are not as foretold, until it must refuse them. */
    private static final class RunReader {
        private final byte[] bytes;
        private final Pace pace;
        private int came;
        private int bits;
        private int left;
        private int ahead;
        private int runs;
        private int refused;

        RunReader() {
            bytes = new byte[BYTES_THAT_COME];
            pace = new Pace();
        }

        boolean hasRoomFor(int many) {
            return many <= bytes.length - came;
        }

        void take(int b) {
            if (isWithin(came, 0, bytes.length - 1)) {
                bytes[came] = (byte) b;
                came++;
            }
        }

        void forgetBytes() {
            came = 0;
        }

        void begin(int bitsToTell) {
            pace.begin();
            bits = 0;
            left = bitsToTell;
            ahead = NONE;
            runs = 0;
            refused = ACCEPTED;
        }

        int nextBit(int foretold) {
            if (ahead == NONE) {
                readRun();
            }
            if (refused != ACCEPTED) {
                return 0;
            }
            left--;
            ahead--;
            // Behind its last bit as foretold a run tells of one that is not: with that one, ahead is NONE.
            return ahead == NONE ? 1 - foretold : foretold;
        }

        private void readRun() {
            int k = pace.lowBits();
            int ones = 0;
            while (ones < MOST_ONES && readBit() == 1) {
                ones++;
            }
            int run = ones < MOST_ONES ? ones << k | read(k) : read(LONG_RUN_BITS);
            if (refused != ACCEPTED) {
                return;
            }
            runs++;
            if (run > left) {
                refused = RUN_TOO_LONG;
                return;
            }
            ahead = run;
            pace.learn(run);
        }

        private int read(int many) {
            int number = 0;
            for (int bit = 0; bit < many; bit++) {
                number = number << 1 | readBit();
            }
            return number;
        }

        private int readBit() {
            int i = bits >> 3;
            if (!isWithin(i, 0, Math.min(came, bytes.length) - 1)) {
                refused = BITS_END;
                return 0;
            }
            int bit = bytes[i] >> 7 - (bits & 7) & 1;
            bits++;
            return bit;
        }

        void end() {
            if (refused == ACCEPTED && ahead == NONE) {
                readRun();
            }
            if (refused == ACCEPTED && !isAllRead()) {
                refused = MORE_BEHIND_END;
            }
        }

        private boolean isAllRead() {
            int read = bits + 7 >> 3;
            int last = read - 1;
            if (read < came || !isWithin(last, 0, bytes.length - 1)) {
                return false;
            }
            int unread = (read << 3) - bits;
            return (bytes[last] & (1 << unread) - 1) == 0;
        }
    }
}
