/** Each promise of the document by its number; the answers due were worked out by hand. */
public final class PromiseTests {
    private static final Check CHECK = new Check("promises");
    private static final int FAR = Integer.MAX_VALUE;
    private static final int DEEP = Integer.MIN_VALUE;

    public static void main(String[] args) {
        newObject();
        patterns();
        ordered();
        put();
        cell();
        grid();
        where();
        outside();
        grey();
        greyAt();
        way();
        row();
        page();
        count();
        shade();
        compose();
        at();
        encode();
        encodeSixPlanes();
        encodeByStates();
        encodeWithSkippedPlaces();
        byteAt();
        feed();
        pass();
        decode();
        decodeRefuses();
        decodeLeavesGreysWhenRefused();
        context();
        contextWhenRefused();
        told();
        clear();
        throwingChangesNothing();
        CHECK.end();
    }

    private static void due(String what, Object want, Check.Call call) {
        CHECK.due(what, want, call);
    }

    private static Subject sized(int width, int height) {
        return new Subject(width, height);
    }

    private static void newObject() {
        due("1 sizes", "5 7 1 1 1 0 1 1 0 0 0 0", () -> sized(5, 7).toldAll());
        due("1 sizes 1 and 32", "1 32 1 1 1 0 1 1 0 0 0 0", () -> sized(1, 32).toldAll());
        due("1 sizes below and above", "1 32 1 1 1 0 1 1 0 0 0 0", () -> sized(0, 33).toldAll());
        due("1 sizes far off", "32 1 1 1 1 0 1 1 0 0 0 0", () -> sized(FAR, DEEP).toldAll());
        due("1 the region is light", "../..", () -> sized(2, 2).region());
        due("1 the pattern is light", ".", () -> sized(2, 2).pattern(0));
        due("1 the grey is 0", "0", () -> sized(2, 2).greys());
        due("1 the ways are 0", "000", () -> sized(2, 2).ways());
        due("1 the place's x", 0, () -> sized(2, 2).where(0, 0, 0));
        due("1 the place's y", 0, () -> sized(2, 2).where(0, 0, 1));
        due("1 no contexts", "", () -> sized(2, 2).contexts());
    }

    private static void patterns() {
        Subject x = sized(8, 8);
        int[] many = {1, 2, 3, 4, 5, 8, 9, 16, 17, 32, 33, 64};
        int[] planes = {0, 1, 2, 2, 3, 3, 4, 4, 5, 5, 6, 6};
        for (int n = 0; n < many.length; n++) {
            int asked = many[n];
            due("2 planes of " + asked, planes[n], () -> x.patterns(3, 2, asked));
        }
        x.grid(2, 2, 0, 0, 256, 0);
        x.grey(1, 1, 63);
        x.put(0, 2, 1, true);
        due("2 in place of others", 6, () -> x.patterns(8, 1, 64));
        due("2 width and height", "8 8 64 8 1 6 2 2 0 0 0 0", x::toldAll);
        due("2 all are light", "........", () -> x.pattern(0));
        due("2 all greys are 0", "0 0 0 0", x::greys);
        int[][] wrong = {{0, 1, 1}, {9, 1, 1}, {1, 0, 1}, {1, 9, 1}, {1, 1, 0}, {1, 1, 65}, {DEEP, 1, 1}, {1, 1, FAR}};
        for (int[] w : wrong) {
            CHECK.argument("2 a wrong number", () -> x.patterns(w[0], w[1], w[2]));
        }
    }

    private static void ordered() {
        Subject x = sized(8, 8);
        for (int side = 1; side <= 7; side++) {
            int asked = side;
            due("3 how many of side " + asked, asked * asked + 1, () -> x.ordered(asked));
            due("3 the last is dark", "#".repeat(asked), () -> x.pattern(asked * asked).split("/")[asked - 1]);
            due("3 the first is light", ".".repeat(asked), () -> x.pattern(0).split("/")[0]);
        }
        x.ordered(2);
        // Keys of (0,0) (1,1) (1,0) (0,1): 00, 01, 10, 11 as highest bits.
        String[] two = {"../..", "#./..", "#./.#", "##/.#", "##/##"};
        for (int k = 0; k < two.length; k++) {
            int asked = k;
            due("3 pattern " + k + " of side 2", two[k], () -> x.pattern(asked));
        }
        x.ordered(3);
        // Keys, row by row: 0 32 8 / 48 16 56 / 12 44 4: ranks 0 5 2 / 7 4 8 / 3 6 1.
        due("3 pattern 4 of side 3", "#.#/.../#.#", () -> x.pattern(4));
        due("3 pattern 6 of side 3", "###/.#./#.#", () -> x.pattern(6));
        due("3 pattern 8 of side 3", "###/##./###", () -> x.pattern(8));
        x.ordered(5);
        // The least keys: 0 of (0, 0), 1 of (4, 4), 2 of (4, 0), 3 of (0, 4).
        due("3 pattern 2 of side 5", "#..../...../...../...../....#", () -> x.pattern(2));
        due("3 pattern 3 of side 5", "#...#/...../...../...../....#", () -> x.pattern(3));
        due("3 pattern 4 of side 5", "#...#/...../...../...../#...#", () -> x.pattern(4));
        x.grid(2, 1, 0, 0, 256, 0);
        x.grey(1, 0, 9);
        x.ordered(3);
        due("3 all greys are 0", "0 0", x::greys);
        for (int side : new int[] {0, 8, -1, DEEP, FAR}) {
            CHECK.argument("3 side " + side, () -> x.ordered(side));
        }
    }

    private static void put() {
        Subject x = sized(8, 8);
        x.patterns(8, 8, 64);
        due("4 it was other", true, () -> x.put(63, 7, 7, true));
        due("4 it was not", false, () -> x.put(63, 7, 7, true));
        due("4 it is dark", true, () -> x.cell(63, 7, 7));
        due("4 others are not", false, () -> x.cell(63, 6, 7) || x.cell(63, 7, 6) || x.cell(62, 7, 7));
        due("4 light again", true, () -> x.put(63, 7, 7, false));
        due("4 it was light", false, () -> x.put(63, 7, 7, false));
        x.patterns(3, 2, 5);
        int[][] wrong = {
            {5, 0, 0}, {-1, 0, 0}, {0, 3, 0}, {0, -1, 0}, {0, 0, 2}, {0, 0, -1}, {DEEP, 0, 0}, {0, FAR, 0},
        };
        for (int[] w : wrong) {
            CHECK.index("4 no such cell", () -> x.put(w[0], w[1], w[2], true));
        }
    }

    private static void cell() {
        Subject x = sized(8, 8);
        x.patterns(3, 2, 2);
        x.put(1, 2, 0, true);
        x.put(1, 0, 1, true);
        due("5 cells", "..#/#..", () -> x.pattern(1));
        int[][] wrong = {
            {2, 0, 0}, {-1, 0, 0}, {0, 3, 0}, {0, -1, 0}, {0, 0, 2}, {0, 0, -1}, {FAR, 0, 0}, {0, 0, DEEP},
        };
        for (int[] w : wrong) {
            CHECK.index("5 no such cell", () -> x.cell(w[0], w[1], w[2]));
        }
    }

    private static void grid() {
        Subject x = sized(4, 4);
        x.patterns(2, 2, 3);
        due("6 none outside", 0, () -> x.grid(2, 2, 0, 0, 512, 0));
        x.grey(1, 1, 2);
        due("6 two columns and a row outside", 7, () -> x.grid(3, 3, -1024, 0, 512, 0));
        due("6 all greys are 0", "0 0 0 0 0 0 0 0 0", x::greys);
        due("6 all outside", 256, () -> x.grid(16, 16, 65536, 65536, 4096, 4096));
        due("6 the least numbers", 1, () -> x.grid(1, 1, -65536, -65536, -4096, -4096));
        due("6 dx alone", 0, () -> x.grid(1, 1, 0, 0, 1, 0));
        due("6 dy alone", 0, () -> x.grid(1, 1, 0, 0, 0, -1));
        int[][] wrong = {
            {0, 1, 0, 0, 1, 0}, {17, 1, 0, 0, 1, 0}, {1, 0, 0, 0, 1, 0}, {1, 17, 0, 0, 1, 0},
            {1, 1, -65537, 0, 1, 0}, {1, 1, 65537, 0, 1, 0}, {1, 1, 0, -65537, 1, 0}, {1, 1, 0, 65537, 1, 0},
            {1, 1, 0, 0, -4097, 0}, {1, 1, 0, 0, 4097, 0}, {1, 1, 0, 0, 1, -4097}, {1, 1, 0, 0, 1, 4097},
            {1, 1, 0, 0, 0, 0}, {DEEP, FAR, DEEP, FAR, DEEP, FAR},
        };
        for (int[] w : wrong) {
            CHECK.argument("6 a wrong number", () -> x.grid(w[0], w[1], w[2], w[3], w[4], w[5]));
        }
    }

    private static void where() {
        Subject x = sized(10, 7);
        x.grid(6, 5, -700, 300, 500, 300);
        due("7 x is rounded down", -3, () -> x.where(0, 0, 0));
        due("7 y", 1, () -> x.where(0, 0, 1));
        due("7 x of a column", 7, () -> x.where(5, 0, 0));
        due("7 y of a column", -5, () -> x.where(5, 0, 1));
        due("7 x of a row", 1, () -> x.where(0, 4, 0));
        due("7 y of a row", 8, () -> x.where(0, 4, 1));
        x.grid(16, 16, 65536, -65536, 4096, 4096);
        due("7 the greatest x", 736, () -> x.where(15, 15, 0));
        due("7 y with the turn", -496, () -> x.where(15, 0, 1));
        x.grid(2, 2, -1, 255, 256, 0);
        due("7 -1 by 256", -1, () -> x.where(0, 0, 0));
        due("7 255 by 256", 0, () -> x.where(0, 0, 1));
        CHECK.index("7 i", () -> x.where(2, 0, 0));
        CHECK.index("7 i below", () -> x.where(-1, 0, 0));
        CHECK.index("7 j", () -> x.where(0, 2, 0));
        CHECK.index("7 j below", () -> x.where(0, -1, 1));
        CHECK.argument("7 axis", () -> x.where(1, 1, 2));
        CHECK.argument("7 axis below", () -> x.where(1, 1, -1));
        CHECK.index("7 the first of two", () -> x.where(2, 0, 2));
    }

    private static void outside() {
        Subject x = sized(5, 6);
        x.patterns(3, 2, 1);
        int[][] places = {
            {-3, 0, 1}, {-2, 0, 0}, {4, 0, 0}, {5, 0, 1}, {0, -2, 1}, {0, -1, 0}, {0, 5, 0}, {0, 6, 1}, {-2, -1, 0},
            {4, 5, 0}, {-3, -1, 1}, {4, 6, 1},
        };
        for (int[] place : places) {
            x.grid(1, 1, 256 * place[0], 256 * place[1], 256, 0);
            due("8 at " + place[0] + ", " + place[1], place[2] == 1, () -> x.outside(0, 0));
        }
        x.grid(1, 1, -512, 0, 256, 0);
        x.patterns(2, 2, 1);
        due("8 by the size of the patterns at hand", true, () -> x.outside(0, 0));
        CHECK.index("8 i", () -> x.outside(1, 0));
        CHECK.index("8 j", () -> x.outside(0, 1));
        CHECK.index("8 below", () -> x.outside(-1, 0));
        CHECK.index("8 far below", () -> x.outside(0, DEEP));
    }

    private static void grey() {
        Subject x = sized(8, 8);
        x.patterns(1, 1, 64);
        x.grid(16, 16, 0, 0, 256, 0);
        due("9 another", true, () -> x.grey(15, 15, 63));
        due("9 the same", false, () -> x.grey(15, 15, 63));
        due("9 only there", 0, () -> x.greyAt(14, 15) + x.greyAt(15, 14));
        due("9 back", true, () -> x.grey(15, 15, 0));
        CHECK.index("9 i", () -> x.grey(16, 0, 0));
        CHECK.index("9 j", () -> x.grey(0, 16, 0));
        CHECK.index("9 below", () -> x.grey(0, -1, 0));
        CHECK.argument("9 no such pattern", () -> x.grey(0, 0, 64));
        CHECK.argument("9 a pattern below", () -> x.grey(0, 0, -1));
        CHECK.index("9 the first of two", () -> x.grey(-1, 0, 64));
    }

    private static void greyAt() {
        Subject x = sized(8, 8);
        x.patterns(1, 1, 9);
        x.grid(3, 2, 0, 0, 256, 0);
        x.grey(2, 0, 5);
        x.grey(0, 1, 8);
        due("10 greys", "0 0 5 8 0 0", x::greys);
        CHECK.index("10 i", () -> x.greyAt(3, 0));
        CHECK.index("10 j", () -> x.greyAt(0, 2));
        CHECK.index("10 below", () -> x.greyAt(-1, 0));
        CHECK.index("10 far", () -> x.greyAt(FAR, FAR));
    }

    private static void way() {
        Subject x = sized(8, 8);
        int[] most = {4, 1, 1};
        for (int what = 0; what <= 2; what++) {
            int asked = what;
            int before = 0;
            for (int v = 0; v <= most[what]; v++) {
                int next = v;
                due("11 what it was", before, () -> x.way(asked, next));
                before = v;
            }
            CHECK.argument("11 v above", () -> x.way(asked, most[asked] + 1));
            CHECK.argument("11 v below", () -> x.way(asked, -1));
        }
        due("11 each by itself", "411", x::ways);
        CHECK.argument("11 what above", () -> x.way(3, 0));
        CHECK.argument("11 what below", () -> x.way(-1, 0));
    }

    private static void row() {
        Subject x = sized(5, 3);
        due("12 samples were other", 3, () -> x.row(1, 0b10101));
        due("12 bits beyond the width are nothing", 2, () -> x.row(1, -1));
        due("12 they are dark", 5, () -> x.told(10));
        due("12 none was other", 0, () -> x.row(1, 0b11111));
        due("12 light again", 4, () -> x.row(1, 0b01000));
        x.patterns(1, 1, 1);
        x.grid(5, 3, 0, 0, 256, 0);
        due("12 bit x is for column x", "0 1 0", () -> x.count(2, 1) + " " + x.count(3, 1) + " " + x.count(3, 0));
        Subject wide = sized(32, 32);
        due("12 all 32", 32, () -> wide.row(31, -1));
        due("12 the highest bit", 31, () -> wide.row(31, DEEP));
        CHECK.index("12 y", () -> x.row(3, 0));
        CHECK.index("12 y below", () -> x.row(-1, 0));
        CHECK.index("12 y far", () -> x.row(FAR, 0));
    }

    private static void page() {
        Subject x = sized(3, 2);
        x.row(0, 0b111);
        x.patterns(1, 1, 2);
        x.put(1, 0, 0, true);
        x.grid(3, 2, 0, 0, 256, 0);
        x.grey(0, 0, 1);
        x.grey(2, 1, 1);
        x.compose();
        due("13 samples were other", 3, x::page);
        due("13 the page is the region", "1 0 0 0 0 1", () -> x.count(0, 0) + " " + x.count(1, 0) + " " + x.count(2, 0)
                + " " + x.count(0, 1) + " " + x.count(1, 1) + " " + x.count(2, 1));
        due("13 none was other", 0, x::page);
        x.row(0, 0b110);
        due("13 the region stays", "#../..#", x::region);
        due("13 again", 3, x::page);
    }

    private static void count() {
        Subject x = sized(4, 4);
        for (int y = 0; y < 4; y++) {
            x.row(y, y == 1 ? 0b0110 : 0b1111);
        }
        x.patterns(3, 2, 1);
        x.grid(1, 1, 0, 0, 256, 0);
        due("14 inside", 5, () -> x.count(0, 0));
        x.grid(1, 1, -512, -256, 256, 0);
        due("14 across the left upper corner", 1, () -> x.count(0, 0));
        x.grid(1, 1, 512, 768, 256, 0);
        due("14 across the right lower corner", 2, () -> x.count(0, 0));
        x.grid(1, 1, 1024, 0, 256, 0);
        due("14 outside", 0, () -> x.count(0, 0));
        x.grid(1, 1, 65536, 0, 256, 0);
        due("14 far outside", 0, () -> x.count(0, 0));
        CHECK.index("14 i", () -> x.count(1, 0));
        CHECK.index("14 j", () -> x.count(0, 1));
        CHECK.index("14 below", () -> x.count(0, -1));
    }

    private static void shade() {
        Subject x = sized(8, 1);
        x.row(0, 0b11110111);
        x.patterns(4, 1, 4);
        // Dark cells of the patterns: 2, 4, 2, 4.
        for (int k = 0; k < 4; k++) {
            for (int u = 0; u < (k % 2 == 0 ? 2 : 4); u++) {
                x.put(k, u, 0, true);
            }
        }
        x.grid(3, 1, 0, 0, 1024, 0);
        x.grey(0, 0, 3);
        x.grey(1, 0, 3);
        x.grey(2, 0, 3);
        due("15 how many were others", 3, x::shade);
        due("15 3 is as near to 2 as to 4: the lesser; 4: the first; 0: the nearest", "0 1 0", x::greys);
        due("15 none was other", 0, x::shade);
        x.patterns(1, 1, 2);
        x.put(0, 0, 0, true);
        x.grid(8, 1, 0, 0, 256, 0);
        due("15 light ones get pattern 1", 1, x::shade);
        due("15 by number, not by order", "0 0 0 1 0 0 0 0", x::greys);
        shadeFull();
        shadeFar();
    }

    private static void shadeFull() {
        Subject x = sized(8, 8);
        x.patterns(8, 8, 2);
        for (int y = 0; y < 8; y++) {
            x.row(y, 255);
            for (int u = 0; u < 8; u++) {
                x.put(1, u, y, true);
            }
        }
        due("15 all 64 are dark", 64, () -> x.count(0, 0));
        due("15 pattern 1 has 64", 1, x::shade);
        due("15 its number", 1, () -> x.greyAt(0, 0));
        x.row(0, 127);
        due("15 63 is nearest to 64", 0, x::shade);
    }

    private static void shadeFar() {
        Subject x = sized(8, 1);
        x.patterns(8, 1, 3);
        // Dark cells of the patterns: 7, 0, 4.
        for (int u = 0; u < 7; u++) {
            x.put(0, u, 0, true);
            x.put(2, u, 0, u < 4);
        }
        int[] greyByCount = {1, 1, 1, 2, 2, 2, 0, 0, 0};
        for (int dark = 0; dark <= 8; dark++) {
            x.row(0, (1 << dark) - 1);
            x.shade();
            due("15 the grey of count " + dark, greyByCount[dark], () -> x.greyAt(0, 0));
        }
    }

    private static void compose() {
        // Samples 0 and 1 get dark ones; then 1 and 2 get light ones; 3 gets none.
        String[] onLight = {"##..", "....", "##..", ".##.", "#..."};
        String[] onDark = {"####", "#..#", "..##", "#..#", "#..#"};
        for (int operator = 0; operator <= 4; operator++) {
            Subject x = darkThenLight();
            x.way(0, operator);
            due("16 dark samples, operator " + operator, darkOnes(onLight[operator]), x::compose);
            due("16 on light, operator " + operator, onLight[operator], x::region);
            x.way(1, 1);
            due("16 dark samples on dark, operator " + operator, darkOnes(onDark[operator]), x::compose);
            due("16 on dark, operator " + operator, onDark[operator], x::region);
            x.grid(1, 1, 65536, 0, 256, 0);
            due("16 what is far outside is not laid, operator " + operator, 4, x::compose);
        }
        Subject x = sized(2, 2);
        x.ordered(2);
        x.grid(1, 1, -256, -256, 256, 0);
        x.grey(0, 0, 4);
        due("16 cut by the left and the top", 1, x::compose);
        due("16 the pattern's last cell is seen", "#./..", x::region);
        x.grid(2, 2, -256, 256, 512, 256);
        x.grey(1, 0, 2);
        due("16 a turned grid", 1, x::compose);
        due("16 whose place (1, 0) is at 1, 0", ".#/..", x::region);
        Subject heap = sized(5, 2);
        heap.ordered(3);
        heap.way(0, 4);
        heap.grid(2, 2, 0, 0, 256, 256);
        heap.grey(1, 0, 9);
        // Place (1, 0) covers 1, 1 and so does (0, 1), which is laid behind it; (1, 1) covers all from 2 on.
        due("16 row by row", 1, heap::compose);
        due("16 each row from column 0 on", ".#.../.....", heap::region);
        Subject wide = sized(32, 32);
        wide.ordered(7);
        wide.grid(1, 1, 31 * 256, 31 * 256, 256, 0);
        wide.grey(0, 0, 49);
        due("16 cut by the right and the bottom", 1, wide::compose);
        due("16 the last sample is dark", true, () -> wide.at(31, 31));
    }

    private static long darkOnes(String samples) {
        return samples.chars().filter(c -> c == '#').count();
    }

    private static Subject darkThenLight() {
        Subject x = sized(4, 1);
        x.patterns(2, 1, 2);
        x.put(1, 0, 0, true);
        x.put(1, 1, 0, true);
        x.grid(2, 1, 0, 0, 256, 0);
        x.grey(0, 0, 1);
        return x;
    }

    private static void at() {
        Subject x = sized(3, 2);
        x.ordered(1);
        x.grid(3, 2, 0, 0, 256, 0);
        x.grey(2, 1, 1);
        due("17 before it is composed", ".../...", x::region);
        x.compose();
        due("17 samples", ".../..#", x::region);
        CHECK.index("17 x", () -> x.at(3, 0));
        CHECK.index("17 y", () -> x.at(0, 2));
        CHECK.index("17 x below", () -> x.at(-1, 0));
        CHECK.index("17 y below", () -> x.at(0, DEEP));
    }

    private static void encode() {
        Subject x = sized(8, 8);
        due("18 no planes: a run of 0", 1, x::encode);
        due("18 000", "0", x::made);
        x.ordered(1);
        x.grid(1, 16, 0, 0, 256, 0);
        x.grey(0, 0, 1);
        due("18 runs 0, 1, 13", 2, x::encode);
        due("18 000 01 11111101", "15 232", x::made);
        x.grid(16, 16, 0, 0, 256, 0);
        due("18 a run of 256", 4, x::encode);
        due("18 twelve ones and 13 bits", "255 240 128 0", x::made);
        x.grid(16, 1, 0, 0, 256, 0);
        for (int i = 0; i < 16; i++) {
            x.grey(i, 0, 1);
        }
        due("18 runs 0, 0, 0, 13, the last with k 0", 4, x::encode);
        due("18 000 00 00 and a long run", "1 255 224 13", x::made);
        due("18 the greys stay", "1 1 1 1 1 1 1 1 1 1 1 1 1 1 1 1", x::greys);
        x.patterns(1, 1, 4);
        x.grid(1, 1, 0, 0, 256, 0);
        x.grey(0, 0, 3);
        due("18 gray code 1, 0: runs 0, 1", 1, x::encode);
        due("18 000 01", "8", x::made);
        x.grey(0, 0, 2);
        x.encode();
        due("18 gray code 1, 1: runs 0, 0, 0: 000 00 00", "0", x::made);
        due("18 three runs", 3, () -> x.told(11));
        x.grey(0, 0, 1);
        x.encode();
        due("18 gray code 0, 1: runs 1, 0: 001 00", "32", x::made);
    }

    private static void encodeSixPlanes() {
        Subject x = sized(8, 8);
        x.patterns(1, 1, 64);
        x.grey(0, 0, 42);
        x.encode();
        due("18 gray code 111111: seven runs of 0 in 11 bits", "0 0", x::made);
        due("18 seven runs", 7, () -> x.told(11));
        x.grey(0, 0, 32);
        x.encode();
        due("18 gray code 110000: 000 00 1100", "6 0", x::made);
        for (int v = 0; v < 64; v++) {
            int grey = v;
            x.grey(0, 0, grey);
            x.encode();
            x.pass();
            x.grey(0, 0, 63 - grey);
            x.decode();
            due("22 grey " + grey + " again", grey, () -> x.greyAt(0, 0));
        }
        Subject wide = sized(32, 32);
        wide.patterns(2, 2, 64);
        wide.grid(16, 16, 0, 0, 512, 0);
        wide.grey(14, 15, 1);
        due("18 runs 1534 and 1", 5, wide::encode);
        due("18 k is 8 at most: 0 00000001", "255 242 255 0 64", wide::made);
    }

    private static void encodeByStates() {
        Subject x = sized(8, 8);
        x.ordered(1);
        x.grid(1, 4, 0, 0, 256, 0);
        x.grey(0, 1, 1);
        x.grey(0, 3, 1);
        x.encode();
        // Context 0 goes to -2, to 0, and then foretells 1.
        due("18 0 foretells 1: runs 1, 2: 001 010", "40", x::made);
        due("23 0 rises by 1", "0:1*3 4:-2*1", x::contexts);
        x.grey(0, 3, 0);
        x.encode();
        due("18 runs 1, 1, 0: 001 001 00", "36", x::made);
        due("23 0 falls by 2", "0:-2*3 4:-2*1", x::contexts);
    }

    private static void encodeWithSkippedPlaces() {
        Subject x = sized(2, 1);
        x.ordered(1);
        x.grid(4, 1, -256, 0, 256, 0);
        x.grey(0, 0, 1);
        x.grey(1, 0, 1);
        x.grey(3, 0, 1);
        x.way(2, 1);
        due("18 the two inside are told", 1, x::encode);
        // Bits 1 (context 0: not as foretold), 0 (context 32: as foretold): runs 0, 1.
        due("18 000 01", "8", x::made);
        due("18 no context of a skipped place", "0:1*1 32:-2*1", x::contexts);
        x.way(2, 0);
        x.encode();
        due("18 all four are told", 4, () -> x.context(0, 1) + x.context(32, 1) + x.context(48, 1) + x.context(16, 1));
        x.way(2, 1);
        x.grid(2, 1, 65536, 0, 256, 0);
        due("18 none is told", 1, x::encode);
        due("18 a run of 0", "0", x::made);
    }

    private static void byteAt() {
        Subject x = sized(8, 8);
        CHECK.index("19 none is made", () -> x.byteAt(0));
        x.ordered(1);
        x.grid(16, 16, 0, 0, 256, 0);
        x.encode();
        due("19 first", 255, () -> x.byteAt(0));
        due("19 last", 0, () -> x.byteAt(3));
        CHECK.index("19 behind the last", () -> x.byteAt(4));
        CHECK.index("19 below", () -> x.byteAt(-1));
        CHECK.index("19 far below", () -> x.byteAt(DEEP));
        x.pass();
        x.decode();
        due("19 made last, whatever was read since", 240, () -> x.byteAt(1));
        x.grid(1, 1, 0, 0, 256, 0);
        x.encode();
        CHECK.index("19 only those made last", () -> x.byteAt(1));
    }

    private static void feed() {
        Subject x = sized(8, 8);
        due("20 one", 1, () -> x.feed(0));
        due("20 two", 2, () -> x.feed(255));
        CHECK.argument("20 256", () -> x.feed(256));
        CHECK.argument("20 -1", () -> x.feed(-1));
        x.decode();
        due("20 the first again", 1, () -> x.feed(1));
        Subject full = Fixtures.came(3000);
        due("20 3000 came", 3000, () -> full.told(9));
        CHECK.unsupported("20 no room", () -> full.feed(0));
        CHECK.argument("20 the first of two", () -> full.feed(256));
    }

    private static void pass() {
        Subject x = sized(8, 8);
        due("21 none is made", 0, x::pass);
        x.ordered(1);
        x.grid(16, 16, 0, 0, 256, 0);
        x.encode();
        due("21 four", 4, x::pass);
        due("21 four more", 8, x::pass);
        due("21 behind those", 9, () -> x.feed(7));
        Subject full = Fixtures.came(3000);
        CHECK.unsupported("21 no room", full::pass);
        due("21 nothing came", 3000, () -> full.told(9));
        full.decode();
        due("21 a single one", 1, full::pass);
        Subject rich = Fixtures.rich();
        for (int n = 1; n <= 24; n++) {
            due("21 up to 3000", 125 * n, rich::pass);
        }
        CHECK.unsupported("21 3125 are too many", rich::pass);
        rich.decode();
        rich.feed(0);
        for (int n = 1; n <= 23; n++) {
            rich.pass();
        }
        CHECK.unsupported("21 3001 are too many", rich::pass);
        due("21 nothing came then", 2876, () -> rich.told(9));
    }

    private static void decode() {
        Subject x = sized(8, 8);
        due("22 no planes", 1, () -> x.read(0));
        due("22 no bytes then", 0, () -> x.told(9));
        x.ordered(1);
        x.grid(1, 16, 0, 0, 256, 0);
        due("22 runs 0, 1, 13", 16, () -> x.read(15, 232));
        due("22 the greys", "1 0 0 0 0 0 0 0 0 0 0 0 0 0 0 0", x::greys);
        x.grid(16, 1, 0, 0, 256, 0);
        due("22 a long run", 16, () -> x.read(1, 255, 224, 13));
        due("22 all ones", "1 1 1 1 1 1 1 1 1 1 1 1 1 1 1 1", x::greys);
        due("22 a long run where a short one would do", 16, () -> x.read(255, 240, 8, 0));
        due("22 all zeros", "0 0 0 0 0 0 0 0 0 0 0 0 0 0 0 0", x::greys);
        x.patterns(1, 1, 4);
        x.grid(1, 1, 0, 0, 256, 0);
        int[][] codes = {{8, 3}, {0, 2}, {32, 1}, {64, 0}};
        for (int[] code : codes) {
            due("22 one place", 1, () -> x.read(code[0]));
            due("22 its grey", code[1], () -> x.greyAt(0, 0));
        }
        Subject cut = sized(2, 1);
        cut.ordered(1);
        cut.grid(4, 1, -256, 0, 256, 0);
        for (int i = 0; i < 4; i++) {
            cut.grey(i, 0, 1);
        }
        cut.way(2, 1);
        due("22 how many were not skipped", 2, () -> cut.read(8));
        due("22 those skipped are 0", "0 1 0 0", cut::greys);
        cut.grid(3, 1, 65536, 0, 256, 0);
        cut.grey(1, 0, 1);
        due("22 all skipped", 0, () -> cut.read(0));
        due("22 all are 0", "0 0 0", cut::greys);
    }

    private static void decodeRefuses() {
        Subject x = sized(8, 8);
        due("22 no bytes", -2, x::decode);
        due("22 ones without end", -2, () -> x.read(255));
        due("22 no whole run", 0, () -> x.told(11));
        due("22 13 bits that end", -2, () -> x.read(255, 255, 255));
        due("22 a run of 1 with no bits", -3, () -> x.read(0b00100000));
        due("22 it was whole", 1, () -> x.told(11));
        due("22 no bytes then", 0, () -> x.told(9));
        due("22 a bit 1 behind the end", -4, () -> x.read(0b00010000));
        due("22 the last bit 1", -4, () -> x.read(1));
        due("22 a byte behind the end", -4, () -> x.read(0, 0));
        x.patterns(1, 1, 2);
        x.grid(2, 1, 0, 0, 256, 0);
        due("22 a run of 3 with two bits", -3, () -> x.read(0b01100000));
        due("22 a run of 2", 2, () -> x.read(0b01000000));
        // Run 0, then 2 with one bit left: 000, then k 1: 100.
        due("22 a run of 2 with one bit left", -3, () -> x.read(0b00010000));
        due("22 both were whole", 2, () -> x.told(11));
        // Runs 1, then at the end: a 5, m 2: k 2.
        due("22 the last run is 0", 2, () -> x.read(0b00100000));
        due("22 the last run is 1", -3, () -> x.read(0b00100100));
        due("22 behind that a bit 1", -4, () -> x.read(0b00100001));
        x.patterns(1, 1, 3);
        x.grid(1, 1, 0, 0, 256, 0);
        due("22 grey 3 of three patterns", -5, () -> x.read(8));
        due("22 what is behind the end comes first", -4, () -> x.read(9));
        due("22 grey 2 of three patterns", 1, () -> x.read(0));
        // The last run ends with the last bit of a byte: nothing may stand behind it.
        x.patterns(1, 1, 2);
        x.grid(16, 1, 0, 0, 256, 0);
        due("22 a byte behind a whole byte", -4, () -> x.read(1, 255, 224, 13, 0));
        due("22 whole bytes", 16, () -> x.read(1, 255, 224, 13));
        due("22 a byte too few", -2, () -> x.read(1, 255, 224));
    }

    private static void decodeLeavesGreysWhenRefused() {
        int[][] refused = {{255}, {127}, {0, 0, 0}, {8}};
        int[] want = {-2, -3, -4, -5};
        for (int n = 0; n < refused.length; n++) {
            Subject x = sized(8, 8);
            x.patterns(1, 1, 3);
            x.grey(0, 0, 1);
            int[] bytes = refused[n];
            due("22 refused", want[n], () -> x.read(bytes));
            due("22 the grey stays", "1", x::greys);
            due("22 no bytes have come then", 0, () -> x.told(9));
        }
    }

    private static void context() {
        Subject x = Fixtures.onePlane(16, 1);
        x.encode();
        due("23 -8 at least", "0:-8*16", x::contexts);
        for (int i = 0; i < 16; i++) {
            x.grey(i, 0, 1);
        }
        due("23 until the next one", "0:-8*16", x::contexts);
        x.encode();
        due("23 7 at most", "0:1*1 32:1*1 48:7*14", x::contexts);
        Subject column = Fixtures.onePlane(1, 16);
        column.grey(0, 0, 1);
        column.encode();
        // Context 0: 1 (to 1), 0 (to -1), then 13 zeros.
        due("23 the place above is bit 2", "0:-8*15 4:-2*1", column::contexts);
        column.grid(3, 2, 0, 0, 256, 0);
        column.grey(1, 0, 1);
        column.encode();
        due("23 before it in the row 32; above it 2, 4, 8", "0:0*2 2:-2*1 4:-2*1 8:-2*1 32:-2*1", column::contexts);
        column.grid(3, 1, 0, 0, 256, 0);
        column.grey(0, 0, 1);
        column.encode();
        due("23 two before it in the row 16", "0:1*1 16:-2*1 32:-2*1", column::contexts);
        Subject planes = Fixtures.onePlace(4);
        planes.grey(0, 0, 2);
        planes.encode();
        due("23 the plane above is bit 0, only the last plane counts", "1:1*1", planes::contexts);
        planes.pass();
        planes.patterns(1, 1, 1);
        due("23 it stays", "1:1*1", planes::contexts);
        planes.encode();
        due("23 with no planes", "", planes::contexts);
        CHECK.index("23 c", () -> x.context(64, 0));
        CHECK.index("23 c below", () -> x.context(-1, 0));
        CHECK.argument("23 what", () -> x.context(63, 2));
        CHECK.argument("23 what below", () -> x.context(0, -1));
        CHECK.index("23 the first of two", () -> x.context(64, 2));
    }

    private static void contextWhenRefused() {
        Subject x = Fixtures.onePlane(2, 1);
        due("23 the bits end at the second place", -2, () -> x.read(0b00011111));
        due("23 the first one was told", "0:1*1", x::contexts);
        due("23 one whole run", 1, () -> x.told(11));
        Subject planes = Fixtures.onePlace(4);
        due("23 the bits end when the second plane begins", -2, () -> planes.read(0b00011111));
        due("23 its contexts are new", "", planes::contexts);
        due("23 a run too long there", -3, () -> planes.read(0b00010000));
        due("23 none of its bits are told", "", planes::contexts);
        due("23 read, but behind the end", -4, () -> planes.read(0b00001001));
        due("23 the last plane's", "1:-2*1", planes::contexts);
    }

    private static void told() {
        Subject x = sized(9, 6);
        x.patterns(3, 2, 5);
        x.grid(7, 4, 0, 0, 256, 0);
        x.row(0, 0b1011);
        x.row(5, 0b1);
        x.encode();
        x.feed(1);
        x.feed(2);
        // 84 bits, all as foretold: one run, twelve ones and 13 bits.
        due("24 all", "9 6 5 3 2 3 7 4 4 2 4 1", x::toldAll);
        due("24 12", -1, () -> x.told(12));
        due("24 -1", -1, () -> x.told(-1));
        due("24 far", -1, () -> x.told(FAR));
        due("24 far below", -1, () -> x.told(DEEP));
    }

    private static void clear() {
        Subject x = busy();
        x.clear();
        due("25 all is as at first", sized(6, 5).everything(), x::everything);
        Subject y = busy();
        y.clear();
        CHECK.index("25 no bytes", () -> y.byteAt(0));
        due("25 a region that is light", 0, y::compose);
        due("25 bytes that came before are gone", 1, () -> y.read(0));
        y.patterns(1, 1, 64);
        due("25 patterns are light, greys 0", "0", y::greys);
    }

    /** An object in which nothing is as at first, and whose bytes that came would be refused. */
    private static Subject busy() {
        Subject x = Fixtures.busy();
        x.feed(9);
        return x;
    }

    private static void throwingChangesNothing() {
        String before = busy().everything();
        Sentences.Action[] wrong = {
            x -> x.patterns(2, 2, 65), x -> x.ordered(8), x -> x.put(5, 0, 0, true), x -> x.put(0, 2, 0, true),
            x -> x.cell(0, 0, 2), x -> x.grid(1, 1, 0, 0, 0, 0), x -> x.grid(1, 1, 0, 0, 1, 4097),
            x -> x.where(0, 0, 2), x -> x.outside(3, 0), x -> x.grey(0, 0, 5), x -> x.grey(3, 0, 1),
            x -> x.greyAt(0, 3), x -> x.way(0, 5), x -> x.way(1, 2), x -> x.way(2, -1), x -> x.row(5, 0),
            x -> x.count(0, 3), x -> x.at(6, 0), x -> x.byteAt(-1), x -> x.feed(256), x -> x.context(0, 2),
        };
        for (int n = 0; n < wrong.length; n++) {
            Sentences.Action call = wrong[n];
            Subject x = busy();
            due("a wrong call throws, " + n, true, () -> Check.answer(() -> call.on(x)).startsWith("throws."));
            due("a call that throws changes nothing, " + n, before, x::everything);
        }
        Subject full = Fixtures.came(3000);
        Check.answer(() -> full.feed(1));
        Check.answer(full::pass);
        due("nor does one for which there is no room", 3000, () -> full.told(9));
    }
}
