/** Sentences of promises 2 to 5: patterns, ordered ones, and their cells. */
final class PatternSentences {
    private static final int LEAST = Integer.MIN_VALUE;
    private static final int GREATEST = Integer.MAX_VALUE;

    /** Ranks by the keys 0 32 8 40 2 34 10 / 48 16 56 24 50 18 58 / 12 44 4 36 14 46 6 / 60 28 52 20 62 30 54 / .. */
    private static final String[] RANKS = {
        "",
        "0",
        "0 2/3 1",
        "0 5 2/7 4 8/3 6 1",
        "0 8 2 10/12 4 14 6/3 11 1 9/15 7 13 5",
        "0 13 5 16 2/19 9 22 11 20/7 18 4 15 8/23 12 21 10 24/3 14 6 17 1",
        "0 18 5 23 2 20/27 9 32 14 29 11/7 25 4 22 8 26/34 16 31 13 35 17/3 21 6 24 1 19/30 12 33 15 28 10",
        "0 25 8 31 2 27 10/37 16 43 21 39 18 45/12 33 4 29 14 35 6/47 23 41 20 48 24 42"
                + "/3 28 11 32 1 26 9/40 19 46 22 38 17 44/15 36 7 30 13 34 5",
    };

    private final Sentences s;

    PatternSentences(Sentences s) {
        this.s = s;
    }

    void test() {
        s.term("1, 2, 4 and 5", "PATTERNS have one width and height, 1 .. 8,", this::widthAndHeight);
        s.term("2, 4 and 5", "and numbers from 0; there are as many as was said, 1 .. 64;", this::numbers);
        s.term("1", "at first one of 1 by 1, light.", this::atFirst);
        s.promise(2, "So many patterns, all light, in place of others;", this::inPlaceOfOthers);
        s.promise(2, "all greys are 0:", () -> greysAreZero(x -> x.patterns(1, 1, 5)));
        s.promise(2, "how many planes they have.", this::planes);
        s.promise(2, "IllegalArgument: not 1 .. 8, or not 1 .. 64.", this::patternsRefused);
        s.promise(3, "ORDERED patterns in place of others;", this::orderedInPlaceOfOthers);
        s.promise(3, "all greys are 0:", () -> greysAreZero(x -> x.ordered(2)));
        s.promise(3, "how many.", this::howManyOrdered);
        s.promise(3, "IllegalArgument: the side.", this::orderedRefused);
        s.term("3", "ORDERED ones of a side q, 1 .. 7, are q q + 1 of q by q;", this::orderedSizes);
        s.term("3", "pattern k has the k cells of the least ranks dark;", this::cellsOfLeastRanks);
        s.term("3", "the RANK of a cell is how many cells have a lesser KEY:", this::ranks);
        s.term("3", "the key of (x, y) has six bits, from the highest one on those of x xor y and of y in turn, lowest"
                + " bits first (bit 0 of x xor y, bit 0 of y, bit 1 of x xor y, ..).", this::keys);
        s.promise(4, "A cell of a pattern becomes dark or light:", this::cellBecomes);
        s.promise(4, "whether it was other.", this::putTellsOther);
        s.promise(5, "Whether a cell of a pattern is dark.", this::cellIsDark);
    }

    private void widthAndHeight() {
        for (int size : new int[] {1, 2, 7, 8}) {
            Subject x = Fixtures.sized(8, 8);
            int other = 9 - size;
            x.patterns(size, other, 2);
            s.due("the last cell of each", true, () -> x.put(0, size - 1, other - 1, true)
                    && x.put(1, size - 1, other - 1, true));
            s.due("no column " + size, "throws.IndexOutOfBoundsException", () -> x.cell(1, size, 0));
            s.due("no row " + other, "throws.IndexOutOfBoundsException", () -> x.cell(1, 0, other));
            x.grey(0, 0, 1);
            s.due("one cell is dark", 1, x::compose);
            s.due("it is the last one", true, () -> x.at(size - 1, other - 1));
        }
    }

    private void numbers() {
        for (int many : new int[] {1, 2, 63, 64}) {
            Subject x = Fixtures.sized(8, 8);
            x.patterns(1, 1, many);
            s.due("told", many, () -> x.told(2));
            s.due("pattern 0", false, () -> x.cell(0, 0, 0));
            s.due("the last one", true, () -> x.put(many - 1, 0, 0, true));
            s.due("no pattern " + many, "throws.IndexOutOfBoundsException", () -> x.cell(many, 0, 0));
            s.due("no pattern -1", "throws.IndexOutOfBoundsException", () -> x.cell(-1, 0, 0));
            s.due("the last one is a grey", many > 1, () -> x.grey(0, 0, many - 1));
            s.due("it is dark", 1, x::compose);
        }
    }

    private void atFirst() {
        Subject x = Fixtures.sized(8, 8);
        s.due("one of 1 by 1", "1 1 1", () -> x.told(2) + " " + x.told(3) + " " + x.told(4));
        s.due("light", false, () -> x.cell(0, 0, 0));
        s.due("no other pattern", "throws.IndexOutOfBoundsException", () -> x.cell(1, 0, 0));
        s.due("no other column", "throws.IndexOutOfBoundsException", () -> x.cell(0, 1, 0));
        s.due("no other row", "throws.IndexOutOfBoundsException", () -> x.cell(0, 0, 1));
        s.due("no other grey", "throws.IllegalArgumentException", () -> x.grey(0, 0, 1));
    }

    private void inPlaceOfOthers() {
        Subject x = Fixtures.sized(8, 8);
        x.patterns(2, 2, 64);
        for (int k = 0; k < 64; k++) {
            x.put(k, 1, 1, true);
        }
        x.patterns(2, 2, 2);
        s.due("two of them", "throws.IndexOutOfBoundsException", () -> x.cell(2, 0, 0));
        s.due("the first is light", "../..", () -> x.pattern(0));
        s.due("the second is light", "../..", () -> x.pattern(1));
        x.patterns(2, 2, 64);
        s.due("those beyond two are light too", "../..", () -> x.pattern(2));
        s.due("up to the last", "../..", () -> x.pattern(63));
        x.ordered(7);
        x.patterns(8, 8, 50);
        s.due("none is left of ordered ones", "......../......../......../......../......../......../......../........",
                () -> x.pattern(49));
    }

    private void greysAreZero(Sentences.Action action) {
        Subject x = Fixtures.sized(8, 8);
        x.patterns(1, 1, 5);
        x.grid(16, 16, 0, 0, 256, 0);
        x.grey(0, 0, 4);
        x.grey(15, 0, 3);
        x.grey(0, 15, 2);
        x.grey(15, 15, 1);
        action.on(x);
        s.due("the first place", 0, () -> x.greyAt(0, 0));
        s.due("the last of the first row", 0, () -> x.greyAt(15, 0));
        s.due("the first of the last row", 0, () -> x.greyAt(0, 15));
        s.due("the last place", 0, () -> x.greyAt(15, 15));
        s.due("the grid stays", "16 16", () -> x.told(6) + " " + x.told(7));
    }

    private void planes() {
        int[][] planes = {
            {1, 0}, {2, 1}, {3, 2}, {4, 2}, {5, 3}, {6, 3}, {7, 3}, {8, 3}, {9, 4}, {15, 4}, {16, 4}, {17, 5}, {31, 5},
            {32, 5}, {33, 6}, {63, 6}, {64, 6},
        };
        Subject x = Fixtures.sized(8, 8);
        for (int[] pair : planes) {
            s.due("of " + pair[0], pair[1], () -> x.patterns(1, 1, pair[0]));
            s.due("told of " + pair[0], pair[1], () -> x.told(5));
        }
    }

    private void patternsRefused() {
        int[][] wrong = {
            {0, 1, 1}, {9, 1, 1}, {-1, 1, 1}, {LEAST, 1, 1}, {GREATEST, 1, 1}, {1, 0, 1}, {1, 9, 1}, {1, -1, 1},
            {1, LEAST, 1}, {1, GREATEST, 1}, {1, 1, 0}, {1, 1, 65}, {1, 1, -1}, {1, 1, LEAST}, {1, 1, GREATEST},
            {0, 9, 65}, {8, 8, 65}, {9, 8, 64}, {8, 9, 64},
        };
        for (int[] w : wrong) {
            s.refused(w[0] + " by " + w[1] + ", " + w[2], Sentences.ARGUMENT, x -> x.patterns(w[0], w[1], w[2]));
        }
        int[][] right = {{1, 1, 1}, {8, 1, 1}, {1, 8, 1}, {1, 1, 64}, {8, 8, 64}, {2, 7, 63}, {7, 2, 2}};
        for (int[] r : right) {
            Subject x = Fixtures.busy();
            x.patterns(r[0], r[1], r[2]);
            s.due("taken", r[0] + " " + r[1] + " " + r[2], () -> x.told(3) + " " + x.told(4) + " " + x.told(2));
        }
    }

    private void orderedInPlaceOfOthers() {
        Subject x = Fixtures.sized(8, 8);
        x.patterns(8, 8, 64);
        for (int k = 0; k < 64; k++) {
            x.put(k, 0, 0, true);
            x.put(k, 7, 7, true);
            x.put(k, 1, 0, true);
        }
        x.ordered(2);
        s.due("pattern 0", "../..", () -> x.pattern(0));
        s.due("pattern 1", "#./..", () -> x.pattern(1));
        s.due("pattern 2", "#./.#", () -> x.pattern(2));
        s.due("pattern 4", "##/##", () -> x.pattern(4));
        s.due("no pattern 5", "throws.IndexOutOfBoundsException", () -> x.cell(5, 0, 0));
        x.patterns(8, 8, 64);
        s.due("nothing of the others comes back", false, () -> x.cell(63, 7, 7));
    }

    private void howManyOrdered() {
        int[] many = {0, 2, 5, 10, 17, 26, 37, 50};
        for (int side = 1; side <= 7; side++) {
            int asked = side;
            Subject x = Fixtures.sized(8, 8);
            s.due("side " + asked, many[asked], () -> x.ordered(asked));
            s.due("told of side " + asked, many[asked], () -> x.told(2));
        }
    }

    private void orderedRefused() {
        for (int side : new int[] {0, 8, -1, 9, LEAST, GREATEST}) {
            s.refused("side " + side, Sentences.ARGUMENT, x -> x.ordered(side));
        }
        s.due("side 1", 2, () -> Fixtures.busy().ordered(1));
        s.due("side 2", 5, () -> Fixtures.busy().ordered(2));
        s.due("side 6", 37, () -> Fixtures.busy().ordered(6));
        s.due("side 7", 50, () -> Fixtures.busy().ordered(7));
    }

    private void orderedSizes() {
        for (int side = 1; side <= 7; side++) {
            int q = side;
            Subject x = Fixtures.sized(8, 8);
            x.ordered(q);
            s.due("side " + q, q * q + 1 + " " + q + " " + q, () -> x.told(2) + " " + x.told(3) + " " + x.told(4));
            s.due("the last pattern's last cell", true, () -> x.cell(q * q, q - 1, q - 1));
            s.due("no pattern behind it", "throws.IndexOutOfBoundsException", () -> x.cell(q * q + 1, 0, 0));
            s.due("no column " + q, "throws.IndexOutOfBoundsException", () -> x.cell(0, q, 0));
            s.due("no row " + q, "throws.IndexOutOfBoundsException", () -> x.cell(0, 0, q));
        }
    }

    private void cellsOfLeastRanks() {
        for (int side = 1; side <= 7; side++) {
            Subject x = Fixtures.sized(8, 8);
            x.ordered(side);
            for (int k = 0; k <= side * side; k++) {
                x.grey(0, 0, k);
                s.due("dark cells of pattern " + k + " of side " + side, k, x::compose);
            }
        }
        Subject x = Fixtures.sized(8, 8);
        x.ordered(3);
        s.due("pattern 0 of side 3", ".../.../...", () -> x.pattern(0));
        s.due("pattern 1 of side 3", "#../.../...", () -> x.pattern(1));
        s.due("pattern 4 of side 3", "#.#/.../#.#", () -> x.pattern(4));
        s.due("pattern 5 of side 3", "#.#/.#./#.#", () -> x.pattern(5));
        s.due("pattern 8 of side 3", "###/##./###", () -> x.pattern(8));
        s.due("pattern 9 of side 3", "###/###/###", () -> x.pattern(9));
    }

    private void ranks() {
        for (int side = 1; side <= 7; side++) {
            Subject x = Fixtures.sized(8, 8);
            x.ordered(side);
            String[] lines = RANKS[side].split("/");
            for (int v = 0; v < side; v++) {
                for (int u = 0; u < side; u++) {
                    rank(x, u, v, Integer.parseInt(lines[v].split(" ")[u]));
                }
            }
        }
    }

    /** A cell of rank r is light up to pattern r, and dark from the next one on. */
    private void rank(Subject x, int u, int v, int r) {
        s.due("cell " + u + ", " + v + " of side " + x.told(3), "false true",
                () -> x.cell(r, u, v) + " " + x.cell(r + 1, u, v));
    }

    private void keys() {
        // Cells by their keys 0 .. 15, those of x and y up to 6: each of the six bits parts some of them.
        int[][] cells = {
            {0, 0}, {4, 4}, {4, 0}, {0, 4}, {2, 2}, {6, 6}, {6, 2}, {2, 6}, {2, 0}, {6, 4}, {6, 0}, {2, 4}, {0, 2},
            {4, 6}, {4, 2}, {0, 6},
        };
        Subject x = Fixtures.sized(8, 8);
        x.ordered(7);
        for (int n = 0; n < cells.length; n++) {
            rank(x, cells[n][0], cells[n][1], n);
        }
        rank(x, 1, 1, 16);
        rank(x, 5, 5, 17);
        rank(x, 1, 0, 25);
        rank(x, 0, 1, 37);
        rank(x, 4, 3, 48);
    }

    private void cellBecomes() {
        Subject x = Fixtures.sized(8, 8);
        x.patterns(8, 8, 64);
        int[][] corners = {{0, 0, 0}, {0, 7, 0}, {0, 0, 7}, {63, 7, 7}, {63, 0, 0}, {31, 3, 4}};
        for (int[] c : corners) {
            s.due("dark", true, () -> x.put(c[0], c[1], c[2], true) && x.cell(c[0], c[1], c[2]));
        }
        s.due("the first pattern", "#......#", () -> x.pattern(0).substring(0, 8));
        s.due("its last row", "#.......", () -> x.pattern(0).substring(63));
        s.due("light again", false, () -> x.put(0, 7, 0, false) && x.cell(0, 7, 0));
        s.due("the cell beside it stays", true, () -> x.cell(0, 0, 0));
        s.due("no other pattern has it", false, () -> x.cell(1, 0, 0) || x.cell(62, 7, 7) || x.cell(32, 3, 4));
        int[][] none = {
            {-1, 0, 0}, {5, 0, 0}, {6, 0, 0}, {0, -1, 0}, {0, 2, 0}, {0, 3, 0}, {0, 0, -1}, {0, 0, 2}, {0, 0, 3},
            {LEAST, 0, 0}, {GREATEST, 0, 0}, {0, LEAST, 0}, {0, GREATEST, 0}, {0, 0, LEAST}, {0, 0, GREATEST},
        };
        for (int[] c : none) {
            s.refused("no cell " + c[0] + ", " + c[1] + ", " + c[2], Sentences.INDEX,
                    b -> b.put(c[0], c[1], c[2], true));
            s.refused("nor to make it light", Sentences.INDEX, b -> b.put(c[0], c[1], c[2], false));
        }
        s.due("the last cell of the last pattern", true, () -> Fixtures.busy().put(4, 1, 1, false));
    }

    private void putTellsOther() {
        Subject x = Fixtures.sized(8, 8);
        x.patterns(2, 1, 2);
        s.due("light to light", false, () -> x.put(1, 0, 0, false));
        s.due("light to dark", true, () -> x.put(1, 0, 0, true));
        s.due("dark to dark", false, () -> x.put(1, 0, 0, true));
        s.due("it stays dark", "#.", () -> x.pattern(1));
        s.due("dark to light", true, () -> x.put(1, 0, 0, false));
        s.due("it is light", "..", () -> x.pattern(1));
        s.due("light to light again", false, () -> x.put(1, 0, 0, false));
    }

    private void cellIsDark() {
        Subject x = Fixtures.sized(8, 8);
        x.patterns(3, 2, 4);
        x.put(0, 0, 0, true);
        x.put(3, 2, 1, true);
        s.due("the first", "#../...", () -> x.pattern(0));
        s.due("the last", ".../..#", () -> x.pattern(3));
        s.due("one between", ".../...", () -> x.pattern(2));
        int[][] none = {
            {-1, 0, 0}, {4, 0, 0}, {0, -1, 0}, {0, 3, 0}, {0, 0, -1}, {0, 0, 2}, {0, 2, 2}, {4, 2, 1}, {LEAST, 0, 0},
            {0, GREATEST, 0}, {0, 0, LEAST},
        };
        for (int[] c : none) {
            s.due("no cell " + c[0] + ", " + c[1] + ", " + c[2], "throws.IndexOutOfBoundsException",
                    () -> x.cell(c[0], c[1], c[2]));
        }
        s.refused("no cell", Sentences.INDEX, b -> b.cell(5, 0, 0));
        s.refused("no column", Sentences.INDEX, b -> b.cell(0, 2, 0));
        s.refused("no row", Sentences.INDEX, b -> b.cell(0, 0, 2));
    }
}
