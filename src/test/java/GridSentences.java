/** Sentences of promises 6 to 11: the grid, its places, their greys, and the ways. */
final class GridSentences {
    private static final int LEAST = Integer.MIN_VALUE;
    private static final int GREATEST = Integer.MAX_VALUE;

    private final Sentences s;

    GridSentences(Sentences s) {
        this.s = s;
    }

    void test() {
        s.term("6", "THE GRID has columns i and rows j, each 1 .. 16 many;", this::columnsAndRows);
        s.term("6 and 7", "place (i, j) is where the left upper sample of its pattern comes to: x is (gx + j dy + i dx)"
                + " by 256, y is (gy + j dx - i dy) by 256,", this::formula);
        s.term("6 and 7", "each rounded down;", this::roundedDown);
        s.term("1 and 6", "at first one place, (0, 0), and dx 256.", this::atFirst);
        s.term("6 and 8", "A place is OUTSIDE, if no sample of its pattern would be in the region.", this::outside);
        s.term("9 and 10", "Each place has a GREY, the number of a pattern, at first 0.", this::greys);
        s.term("11, 18 and 22", "If places outside are SKIPPED, no bits are told of them.", this::skipped);
        s.promise(6, "A grid in place of the other, all greys are 0:", this::inPlaceOfTheOther);
        s.promise(6, "how many places are outside.", this::howManyOutside);
        s.promise(6, "IllegalArgument: columns or rows, gx or gy is not -65536 .. 65536, dx or dy not -4096 .. 4096, or"
                + " both are 0.", this::gridRefused);
        s.promise(7, "The x (axis = 0), or y (1), of a place.", this::axes);
        s.promise(8, "Whether a place is outside.", this::isOutside);
        s.promise(9, "A grey: whether it was another one.", this::greyTellsAnother);
        s.promise(9, "IllegalArgument: there is no such pattern.", this::greyRefused);
        s.promise(10, "The grey of a place.", this::greyOfPlace);
        s.promise(11, "The operator (what = 0), the background (1: 0 or 1), whether places outside are skipped (2: 1 or"
                + " 0; at first all 0):", this::ways);
        s.promise(11, "what it was.", this::wayTellsWhatItWas);
        s.promise(11, "IllegalArgument: another what, or v.", this::wayRefused);
    }

    private void columnsAndRows() {
        for (int[] size : new int[][] {{1, 16}, {16, 1}, {2, 15}, {15, 2}, {16, 16}, {1, 1}}) {
            Subject x = Fixtures.sized(32, 32);
            int columns = size[0];
            int rows = size[1];
            s.due("none is outside", 0, () -> x.grid(columns, rows, 0, 0, 256, 0));
            s.due("the last place", columns - 1 + " " + (rows - 1),
                    () -> x.where(columns - 1, rows - 1, 0) + " " + x.where(columns - 1, rows - 1, 1));
            s.due("no column " + columns, "throws.IndexOutOfBoundsException", () -> x.where(columns, rows - 1, 0));
            s.due("no row " + rows, "throws.IndexOutOfBoundsException", () -> x.where(columns - 1, rows, 0));
            s.due("no column -1", "throws.IndexOutOfBoundsException", () -> x.where(-1, 0, 0));
            s.due("no row -1", "throws.IndexOutOfBoundsException", () -> x.where(0, -1, 0));
        }
    }

    private static String place(Subject x, int i, int j) {
        return x.where(i, j, 0) + " " + x.where(i, j, 1);
    }

    private void formula() {
        Subject x = Fixtures.sized(32, 32);
        x.grid(16, 16, 1280, 2560, 512, 768);
        s.due("gx and gy", "5 10", () -> place(x, 0, 0));
        s.due("a column: dx to the right, dy upward", "7 7", () -> place(x, 1, 0));
        s.due("a row: dy to the right, dx downward", "8 12", () -> place(x, 0, 1));
        s.due("both", "10 9", () -> place(x, 1, 1));
        s.due("the last column", "35 -35", () -> place(x, 15, 0));
        s.due("the last row", "50 40", () -> place(x, 0, 15));
        s.due("the last place", "80 -5", () -> place(x, 15, 15));
        x.grid(16, 16, 65536, 65536, 4096, 4096);
        s.due("the greatest x", "736 256", () -> place(x, 15, 15));
        s.due("the greatest y", "496 496", () -> place(x, 0, 15));
        x.grid(16, 16, -65536, -65536, -4096, -4096);
        s.due("the least x", "-736 -256", () -> place(x, 15, 15));
        s.due("the least y", "-496 -496", () -> place(x, 0, 15));
        x.grid(16, 16, 65536, 65536, 4096, -4096);
        s.due("y by both steps", "256 736", () -> place(x, 15, 15));
        x.grid(16, 16, -65536, -65536, -4096, 4096);
        s.due("y below by both steps", "-256 -736", () -> place(x, 15, 15));
        x.grid(2, 2, 65535, -65535, 4095, -4095);
        s.due("sums before they are rounded", "271 -240", () -> place(x, 1, 0));
        x.grid(2, 2, 200, 100, 100, 60);
        s.due("fractions add up: 300 and 40", "1 0", () -> place(x, 1, 0));
        s.due("fractions add up: 260 and 200", "1 0", () -> place(x, 0, 1));
        s.due("fractions add up: 360 and 140", "1 0", () -> place(x, 1, 1));
    }

    private void roundedDown() {
        int[][] rounded = {
            {-65536, -256}, {-65535, -256}, {-513, -3}, {-512, -2}, {-511, -2}, {-257, -2}, {-256, -1}, {-255, -1},
            {-1, -1}, {0, 0}, {1, 0}, {255, 0}, {256, 1}, {257, 1}, {511, 1}, {512, 2}, {65535, 255}, {65536, 256},
        };
        Subject x = Fixtures.sized(32, 32);
        for (int[] r : rounded) {
            x.grid(1, 1, r[0], 0, 256, 0);
            s.due("x of " + r[0], r[1] + " 0", () -> place(x, 0, 0));
            x.grid(1, 1, 0, r[0], 256, 0);
            s.due("y of " + r[0], "0 " + r[1], () -> place(x, 0, 0));
        }
        x.grid(2, 2, 0, 0, -1, 1);
        s.due("a step of -1 and one of 1 upward", "-1 -1", () -> place(x, 1, 0));
        s.due("a step of 1 and one of -1 downward", "0 -1", () -> place(x, 0, 1));
    }

    private void atFirst() {
        Subject x = Fixtures.sized(4, 4);
        s.due("one place", "1 1", () -> x.told(6) + " " + x.told(7));
        s.due("at 0, 0", "0 0", () -> place(x, 0, 0));
        s.due("no second column", "throws.IndexOutOfBoundsException", () -> x.where(1, 0, 0));
        s.due("no second row", "throws.IndexOutOfBoundsException", () -> x.where(0, 1, 0));
        s.due("it is not outside", false, () -> x.outside(0, 0));
        x.ordered(1);
        x.grey(0, 0, 1);
        s.due("one sample is laid", 1, x::compose);
        s.due("the left upper one", "#.../..../..../....", x::region);
    }

    private void outside() {
        int[] sizes = {1, 2, 7, 8};
        for (int size : sizes) {
            int other = 9 - size;
            for (int[] edge : new int[][] {{-size, 1}, {1 - size, 0}, {0, 0}, {4, 0}, {5, 1}, {-size - 1, 1}, {6, 1}}) {
                s.due(size + " wide at column " + edge[0], edge[1] == 1, () -> outsideAt(size, other, edge[0], 0));
                s.due(size + " high at row " + edge[0], edge[1] == 1, () -> outsideAt(other, size, 0, edge[0]));
            }
            s.due("the left upper corner", false, () -> outsideAt(size, other, 1 - size, 1 - other));
            s.due("beside it", true, () -> outsideAt(size, other, -size, 1 - other));
            s.due("above it", true, () -> outsideAt(size, other, 1 - size, -other));
            s.due("the right lower corner", false, () -> outsideAt(size, other, 4, 4));
            s.due("beside that", true, () -> outsideAt(size, other, 5, 4));
            s.due("below that", true, () -> outsideAt(size, other, 4, 5));
        }
        s.due("a sample's 256th left of it", true, () -> outsideBy(-1, 0));
        s.due("a sample's 256th above it", true, () -> outsideBy(0, -1));
        s.due("its last 256th to the right", false, () -> outsideBy(5 * 256 - 1, 0));
        s.due("its last 256th below", false, () -> outsideBy(0, 5 * 256 - 1));
        s.due("behind that", true, () -> outsideBy(5 * 256, 0) && outsideBy(0, 5 * 256));
    }

    private static boolean outsideAt(int width, int height, int column, int row) {
        Subject x = Fixtures.sized(5, 5);
        x.patterns(width, height, 1);
        x.grid(1, 1, 256 * column, 256 * row, 256, 0);
        return x.outside(0, 0);
    }

    private static boolean outsideBy(int gx, int gy) {
        Subject x = Fixtures.sized(5, 5);
        x.grid(1, 1, gx, gy, 256, 0);
        return x.outside(0, 0);
    }

    private void greys() {
        Subject x = Fixtures.sized(8, 8);
        x.patterns(1, 1, 64);
        x.grid(3, 2, 0, 0, 256, 0);
        s.due("at first", "0 0 0 0 0 0", x::greys);
        x.setGreys(0, 1, 2, 32, 62, 63);
        s.due("each its own", "0 1 2 32 62 63", x::greys);
        s.due("no number 64", "throws.IllegalArgumentException", () -> x.grey(0, 0, 64));
        s.due("no number -1", "throws.IllegalArgumentException", () -> x.grey(0, 0, -1));
        x.put(63, 0, 0, true);
        x.compose();
        s.due("it is a pattern's number", true, () -> x.at(2, 1));
        s.due("no other one's", false, () -> x.at(1, 1));
    }

    private void skipped() {
        Subject x = Fixtures.sized(2, 1);
        x.ordered(1);
        x.grid(4, 1, -256, 0, 256, 0);
        x.setGreys(1, 0, 0, 1);
        x.way(2, 1);
        s.due("two bits are told: a run of 2", "64", x::written);
        s.due("of the two inside alone", "0:-3*2", x::contexts);
        s.due("two are read", 2, () -> x.readBits("010"));
        s.due("a third one is behind the last bit", -3, () -> x.readBits("011"));
        x.setGreys(1, 0, 0, 1);
        x.way(2, 0);
        s.due("not skipped: 1 0 0 1 in runs 0, 3", Bits.told("000 101"), x::written);
        s.due("four are read", 4, () -> x.readBits("000 101"));
        s.due("those outside too", "1 0 0 1", x::greys);
        x.way(2, 1);
        x.patterns(2, 1, 2);
        x.setGreys(1, 0, 0, 1);
        s.due("with wider patterns the first is inside", "0:1*1 16:-2*1 32:-2*1", () -> {
            x.encode();
            return x.contexts();
        });
    }

    private void inPlaceOfTheOther() {
        Subject x = Fixtures.sized(8, 8);
        x.patterns(1, 1, 4);
        x.grid(16, 16, 0, 0, 256, 0);
        x.grey(0, 0, 1);
        x.grey(15, 0, 2);
        x.grey(0, 15, 3);
        x.grey(15, 15, 3);
        x.grid(2, 3, 512, 256, 0, 256);
        s.due("its size", "2 3", () -> x.told(6) + " " + x.told(7));
        s.due("its places", "2,1 2,0 3,1 3,0 4,1 4,0", x::places);
        s.due("its greys", "0 0 0 0 0 0", x::greys);
        x.grid(16, 16, 0, 0, 256, 0);
        s.due("the first grid's greys are 0 as well", 0,
                () -> x.greyAt(0, 0) + x.greyAt(15, 0) + x.greyAt(0, 15) + x.greyAt(15, 15));
        x.grey(15, 15, 3);
        x.grid(16, 16, 0, 0, 256, 0);
        s.due("the same grid again", 0, () -> x.greyAt(15, 15));
        s.due("the patterns stay", 4, () -> x.told(2));
    }

    private void howManyOutside() {
        Subject x = Fixtures.sized(4, 4);
        s.due("none of 16", 0, () -> x.grid(4, 4, 0, 0, 256, 0));
        s.due("a column more", 4, () -> x.grid(5, 4, 0, 0, 256, 0));
        s.due("a row more", 4, () -> x.grid(4, 5, 0, 0, 256, 0));
        s.due("a 256th to the left", 4, () -> x.grid(4, 4, -1, 0, 256, 0));
        s.due("a 256th up", 4, () -> x.grid(4, 4, 0, -1, 256, 0));
        s.due("240 of 256", 240, () -> x.grid(16, 16, 0, 0, 256, 0));
        s.due("all of 256 but one", 255, () -> x.grid(16, 16, 768, 768, 256, 0));
        s.due("all", 256, () -> x.grid(16, 16, 1024, 0, 256, 0));
        s.due("one", 1, () -> x.grid(1, 1, 1024, 0, 256, 0));
        s.due("none of one", 0, () -> x.grid(1, 1, 1023, 1023, 256, 0));
        x.patterns(3, 2, 1);
        s.due("patterns that reach in", 0, () -> x.grid(2, 1, -512, -256, 256, 0));
        s.due("patterns that do not", 1, () -> x.grid(2, 1, -513, -256, 256, 0));
        x.way(2, 1);
        s.due("skipped or not", 1, () -> x.grid(2, 1, -513, -256, 256, 0));
    }

    private void gridRefused() {
        int[] right = {2, 2, 0, 0, 1, 1};
        int[][] bounds = {{1, 16}, {1, 16}, {-65536, 65536}, {-65536, 65536}, {-4096, 4096}, {-4096, 4096}};
        for (int n = 0; n < 6; n++) {
            int least = bounds[n][0];
            int most = bounds[n][1];
            for (int v : new int[] {LEAST, least - 2, least - 1, most + 1, most + 2, GREATEST}) {
                int[] g = right.clone();
                g[n] = v;
                s.refused("number " + n + " is " + v, Sentences.ARGUMENT, x -> grid(x, g));
            }
            for (int v : new int[] {least, least + 1, most - 1, most}) {
                int[] g = right.clone();
                g[n] = v;
                Subject x = Fixtures.busy();
                grid(x, g);
                s.due("number " + n + " is " + v, g[0] + " " + g[1], () -> x.told(6) + " " + x.told(7));
            }
        }
        s.refused("both are 0", Sentences.ARGUMENT, x -> x.grid(2, 2, 0, 0, 0, 0));
        s.refused("columns and both are 0", Sentences.ARGUMENT, x -> x.grid(0, 2, 0, 0, 0, 0));
        for (int[] d : new int[][] {{0, 1}, {0, -1}, {1, 0}, {-1, 0}}) {
            s.due("one of them is 0", 0, () -> Fixtures.sized(4, 4).grid(1, 1, 0, 0, d[0], d[1]));
        }
    }

    private static int grid(Subject x, int[] g) {
        return x.grid(g[0], g[1], g[2], g[3], g[4], g[5]);
    }

    private void axes() {
        Subject x = Fixtures.sized(4, 4);
        x.grid(3, 2, 256, 768, 256, 0);
        s.due("x", 3, () -> x.where(2, 1, 0));
        s.due("y", 4, () -> x.where(2, 1, 1));
        int[][] none = {{-1, 0}, {3, 0}, {0, -1}, {0, 3}, {3, 3}, {LEAST, 0}, {0, GREATEST}, {16, 0}, {0, 16}};
        for (int[] place : none) {
            s.refused("no place " + place[0] + ", " + place[1], Sentences.INDEX, b -> b.where(place[0], place[1], 0));
            s.refused("nor its y", Sentences.INDEX, b -> b.where(place[0], place[1], 1));
            s.refused("the place comes first", Sentences.INDEX, b -> b.where(place[0], place[1], 2));
        }
        for (int axis : new int[] {-2, -1, 2, 3, LEAST, GREATEST}) {
            s.refused("axis " + axis, Sentences.ARGUMENT, b -> b.where(2, 2, axis));
        }
    }

    private void isOutside() {
        Subject x = Fixtures.sized(3, 3);
        x.patterns(2, 2, 2);
        s.due("twelve of sixteen", 12, () -> x.grid(4, 4, -512, -512, 512, 0));
        s.due("by place", "-2,-2x 0,-2x 2,-2x 4,-2x -2,0x 0,0 2,0 4,0x -2,2x 0,2 2,2 4,2x -2,4x 0,4x 2,4x 4,4x",
                x::places);
        x.patterns(3, 3, 2);
        s.due("patterns of 3 by 3 reach in", false, () -> x.outside(0, 0));
        s.due("but not behind the last column", true, () -> x.outside(3, 1));
        x.way(2, 1);
        s.due("skipped or not", true, () -> x.outside(3, 1));
        for (int[] place : new int[][] {{-1, 0}, {3, 0}, {0, -1}, {0, 3}, {LEAST, 0}, {0, GREATEST}}) {
            s.refused("no place " + place[0] + ", " + place[1], Sentences.INDEX, b -> b.outside(place[0], place[1]));
        }
        s.due("the first place", false, () -> Fixtures.onePlane(3, 3).outside(0, 0));
        s.due("the last place", false, () -> Fixtures.onePlane(3, 3).outside(2, 2));
    }

    private void greyTellsAnother() {
        Subject x = Fixtures.sized(8, 8);
        x.patterns(1, 1, 64);
        x.grid(16, 16, 0, 0, 256, 0);
        s.due("0 to 0", false, () -> x.grey(0, 0, 0));
        s.due("0 to 1", true, () -> x.grey(0, 0, 1));
        s.due("1 to 1", false, () -> x.grey(0, 0, 1));
        s.due("1 to 63", true, () -> x.grey(0, 0, 63));
        s.due("63 to 63", false, () -> x.grey(0, 0, 63));
        s.due("63 to 0", true, () -> x.grey(0, 0, 0));
        s.due("the last place", true, () -> x.grey(15, 15, 62));
        s.due("it alone", "62 0 0 0", () -> x.greyAt(15, 15) + " " + x.greyAt(14, 15) + " " + x.greyAt(15, 14) + " "
                + x.greyAt(0, 0));
        for (int[] place : new int[][] {{-1, 0}, {3, 0}, {0, -1}, {0, 3}, {LEAST, 0}, {0, GREATEST}, {16, 0}}) {
            s.refused("no place " + place[0] + ", " + place[1], Sentences.INDEX, b -> b.grey(place[0], place[1], 1));
        }
    }

    private void greyRefused() {
        for (int v : new int[] {-1, -2, 5, 6, LEAST, GREATEST}) {
            s.refused("grey " + v + " of 5", Sentences.ARGUMENT, b -> b.grey(2, 2, v));
            s.refused("the place comes first", Sentences.INDEX, b -> b.grey(3, 2, v));
            s.refused("the place's row too", Sentences.INDEX, b -> b.grey(2, -1, v));
        }
        Subject x = Fixtures.onePlace(5);
        s.due("grey 4 of 5", true, () -> x.grey(0, 0, 4));
        s.due("grey 0 of 5", true, () -> x.grey(0, 0, 0));
        Subject one = Fixtures.onePlace(1);
        s.due("grey 0 of 1", false, () -> one.grey(0, 0, 0));
        s.due("grey 1 of 1", "throws.IllegalArgumentException", () -> one.grey(0, 0, 1));
        Subject most = Fixtures.onePlace(64);
        s.due("grey 63 of 64", true, () -> most.grey(0, 0, 63));
        s.due("grey 64 of 64", "throws.IllegalArgumentException", () -> most.grey(0, 0, 64));
    }

    private void greyOfPlace() {
        Subject x = Fixtures.sized(8, 8);
        x.patterns(1, 1, 9);
        x.grid(3, 2, 0, 0, 256, 0);
        x.setGreys(8, 7, 6, 5, 4, 3);
        s.due("each", "8 7 6 5 4 3", x::greys);
        for (int[] place : new int[][] {{-1, 0}, {3, 0}, {0, -1}, {0, 3}, {LEAST, 0}, {0, GREATEST}, {0, 16}}) {
            s.refused("no place " + place[0] + ", " + place[1], Sentences.INDEX, b -> b.greyAt(place[0], place[1]));
        }
        s.due("no column 3", "throws.IndexOutOfBoundsException", () -> x.greyAt(3, 0));
        s.due("no row 2", "throws.IndexOutOfBoundsException", () -> x.greyAt(0, 2));
    }

    private void ways() {
        Subject x = Fixtures.sized(2, 1);
        s.due("at first all 0", "000", x::ways);
        x.way(0, 4);
        s.due("the operator", "400", x::ways);
        x.way(1, 1);
        s.due("the background", "410", x::ways);
        x.way(2, 1);
        s.due("skipping", "411", x::ways);
        x.way(0, 0);
        x.patterns(1, 1, 2);
        x.grid(2, 1, 256, 0, 256, 0);
        s.due("background 1 is dark", 2, x::compose);
        x.way(0, 4);
        s.due("operator 4 lays the light one", 1, x::compose);
        x.way(1, 0);
        s.due("background 0 is light", 0, x::compose);
        x.encode();
        x.pass();
        s.due("one of two is skipped", 1, x::decode);
        x.way(2, 0);
        x.encode();
        x.pass();
        s.due("none is skipped", 2, x::decode);
    }

    private void wayTellsWhatItWas() {
        Subject x = Fixtures.sized(2, 2);
        int[] most = {4, 1, 1};
        for (int what = 0; what <= 2; what++) {
            int asked = what;
            int last = most[what];
            s.due("0 to the greatest", 0, () -> x.way(asked, last));
            s.due("the greatest to itself", last, () -> x.way(asked, last));
            s.due("and back", last, () -> x.way(asked, 0));
            s.due("0 to 0", 0, () -> x.way(asked, 0));
        }
        for (int v = 1; v <= 4; v++) {
            int next = v;
            s.due("operator " + v, v - 1, () -> x.way(0, next));
        }
    }

    private void wayRefused() {
        int[][] wrong = {
            {-1, 0}, {3, 0}, {-2, 1}, {4, 1}, {LEAST, 0}, {GREATEST, 0}, {0, -1}, {0, 5}, {0, 6}, {1, -1}, {1, 2},
            {1, 4}, {2, -1}, {2, 2}, {2, 4}, {0, LEAST}, {1, GREATEST}, {2, LEAST}, {3, 5},
        };
        for (int[] w : wrong) {
            s.refused("way " + w[0] + " to " + w[1], Sentences.ARGUMENT, b -> b.way(w[0], w[1]));
        }
        Subject x = Fixtures.busy();
        for (int[] r : new int[][] {{0, 0}, {0, 4}, {1, 0}, {1, 1}, {2, 0}, {2, 1}}) {
            s.due("way " + r[0] + " to " + r[1], false,
                    () -> Check.answer(() -> x.way(r[0], r[1])).startsWith("throws"));
        }
    }
}
