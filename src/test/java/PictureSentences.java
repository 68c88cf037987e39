/** Sentences of promises 14 to 16: counts, shading and composing. */
final class PictureSentences {
    private static final int LEAST = Integer.MIN_VALUE;
    private static final int GREATEST = Integer.MAX_VALUE;

    private final Sentences s;

    PictureSentences(Sentences s) {
        this.s = s;
    }

    void test() {
        s.term("16", "COMPOSING makes all samples of the region the background,", this::background);
        s.term("16", "then lays the patterns of all places, row by row, each row from column 0 on;", this::order);
        s.term("11 and 16", "a sample of the region and one laid upon it become, by the OPERATOR: 0 their or, 1 their"
                + " and, 2 whether they differ, 3 whether they are the same, 4 the one that is laid.", this::operators);
        s.promise(16, "COMPOSING: how many samples of the region are dark.", this::composeTellsDark);
        s.term("14", "THE COUNT of a place is how many dark samples the page has where its pattern would come to",
                this::countUnderPattern);
        s.term("14", "(what is not in the page is light).", this::countAcrossEdges);
        s.promise(14, "THE COUNT of a place.", this::count);
        s.term("15", "SHADING: each place gets the grey whose pattern has as many dark samples as its count, or the"
                + " nearest number;", this::nearest);
        s.term("15", "of two such numbers the lesser one,", this::lesserOfTwo);
        s.term("15", "of several patterns the first.", this::firstOfSeveral);
        s.promise(15, "SHADING: how many greys were others.", this::shadeTellsOthers);
    }

    private void background() {
        Subject x = Fixtures.sized(32, 32);
        x.grid(1, 1, 8192, 0, 256, 0);
        x.way(1, 1);
        s.due("all dark", 1024, x::compose);
        s.due("the corners", true, () -> x.at(0, 0) && x.at(31, 0) && x.at(0, 31) && x.at(31, 31));
        x.way(1, 0);
        s.due("the ways alone do nothing", true, () -> x.at(31, 31));
        s.due("all light, whatever was there", 0, x::compose);
        s.due("the last sample", false, () -> x.at(31, 31));
        Subject one = Fixtures.sized(1, 1);
        one.way(1, 1);
        s.due("a single sample, or light upon it", 1, one::compose);
        one.way(0, 4);
        s.due("light laid in its place", 0, one::compose);
        Subject page = Fixtures.sized(4, 1);
        page.row(0, 0b1111);
        s.due("the page is not looked at", 0, page::compose);
    }

    private void order() {
        Subject row = Fixtures.sized(3, 1);
        row.patterns(2, 1, 2);
        row.put(1, 0, 0, true);
        row.put(1, 1, 0, true);
        row.way(0, 4);
        row.grid(2, 1, 0, 0, 256, 0);
        row.setGreys(1, 0);
        row.compose();
        s.due("column 1 behind column 0", "#..", row::region);
        row.setGreys(0, 1);
        row.compose();
        s.due("its dark ones too", ".##", row::region);
        Subject x = Fixtures.sized(5, 2);
        x.ordered(3);
        x.way(0, 4);
        // Places at (0, 0), (1, -1), (1, 1), (2, 0): the second and the third meet at (1, 1), where the last is not.
        x.grid(2, 2, 0, 0, 256, 256);
        x.setGreys(0, 9, 0, 0);
        x.compose();
        s.due("row 1 behind row 0", ".#.../.....", x::region);
        x.setGreys(0, 0, 9, 0);
        x.compose();
        s.due("its dark ones too", "...../.#...", x::region);
        everyPlace();
        lightOnDark();
        nothingFromOutside();
    }

    private void everyPlace() {
        Subject x = Fixtures.sized(2, 2);
        x.patterns(1, 1, 2);
        x.put(0, 0, 0, true);
        x.way(0, 2);
        x.grid(16, 16, 0, 0, 1, 0);
        s.due("256 dark ones upon one sample differ an even number of times", 0, x::compose);
        x.grey(15, 15, 1);
        s.due("255 an odd one", 1, x::compose);
        x.grey(0, 0, 1);
        s.due("254 an even one", 0, x::compose);
        x.way(2, 1);
        x.grey(0, 0, 0);
        s.due("skipped or not", 1, x::compose);
    }

    private void lightOnDark() {
        String[] cut = {".##/###/###", "##./###/###", "###/###/.##", "###/###/##.", "#../#../###", "###/###/###"};
        int[][] at = {{-1, -1}, {2, -1}, {-1, 2}, {2, 2}, {1, 0}, {3, 0}};
        for (int n = 0; n < cut.length; n++) {
            Subject x = Fixtures.sized(3, 3);
            x.patterns(2, 2, 1);
            x.way(0, 4);
            x.way(1, 1);
            x.grid(1, 1, 256 * at[n][0], 256 * at[n][1], 256, 0);
            x.compose();
            s.due("light ones at " + at[n][0] + ", " + at[n][1], cut[n], x::region);
        }
        Subject wide = Fixtures.sized(32, 32);
        wide.patterns(8, 8, 1);
        wide.way(0, 4);
        wide.way(1, 1);
        wide.grid(1, 1, 256 * 25, 256 * 25, 256, 0);
        s.due("7 by 7 of them are in the region", 1024 - 49, wide::compose);
        s.due("up to the corner", "false true true",
                () -> wide.at(31, 31) + " " + wide.at(24, 31) + " " + wide.at(31, 24));
    }

    private void nothingFromOutside() {
        for (int far : new int[] {-256, -64, -40, -33, -32, -31, -9, -8, 32, 33, 39, 40, 63, 64, 65, 255, 256}) {
            for (int[] place : new int[][] {{far, 0}, {0, far}, {far, 31}, {31, far}, {far, far}}) {
                Subject x = Fixtures.sized(32, 32);
                x.patterns(8, 8, 1);
                x.way(0, 4);
                x.way(1, 1);
                x.grid(1, 1, 256 * place[0], 256 * place[1], 256, 0);
                s.due("light ones at " + place[0] + ", " + place[1], 1024, x::compose);
            }
        }
        Subject x = Fixtures.sized(32, 32);
        x.patterns(8, 8, 1);
        x.way(0, 3);
        x.grid(16, 16, 65536, 65536, 4096, 4096);
        s.due("the farthest places", 0, x::compose);
        x.grid(16, 16, -65536, -65536, -4096, -4096);
        s.due("the farthest places on the other side", 0, x::compose);
    }

    private void operators() {
        // Light is laid upon the first sample, dark upon the second one, nothing upon the third one.
        String[] onLight = {".#.", "...", ".#.", "#..", ".#."};
        String[] onDark = {"###", ".##", "#.#", ".##", ".##"};
        for (int operator = 0; operator <= 4; operator++) {
            Subject x = Fixtures.sized(3, 1);
            x.ordered(1);
            x.grid(2, 1, 0, 0, 256, 0);
            x.setGreys(0, 1);
            x.way(0, operator);
            x.compose();
            s.due("operator " + operator + " on light", onLight[operator], x::region);
            x.way(1, 1);
            x.compose();
            s.due("operator " + operator + " on dark", onDark[operator], x::region);
        }
        // Pattern 1, a dark and a light cell, twice upon the same samples, a third one beside them.
        String[] twiceOnLight = {"#..", "...", "...", "...", "#.."};
        String[] twiceOnDark = {"###", "#.#", "###", "###", "#.#"};
        for (int operator = 0; operator <= 4; operator++) {
            Subject x = Fixtures.sized(3, 1);
            x.patterns(2, 1, 2);
            x.put(1, 0, 0, true);
            x.grid(2, 1, 0, 0, 1, 0);
            x.setGreys(1, 1);
            x.way(0, operator);
            x.compose();
            s.due("operator " + operator + " twice on light", twiceOnLight[operator], x::region);
            x.way(1, 1);
            x.compose();
            s.due("operator " + operator + " twice on dark", twiceOnDark[operator], x::region);
        }
    }

    private void composeTellsDark() {
        Subject x = Fixtures.onePlane(16, 16);
        s.due("none", 0, x::compose);
        x.grey(15, 15, 1);
        s.due("one", 1, x::compose);
        x.grey(0, 0, 1);
        s.due("two", 2, x::compose);
        s.due("again, from the background on", 2, x::compose);
        x.way(1, 1);
        x.way(0, 1);
        s.due("all but those with light ones", 1024 - 254, x::compose);
        Subject out = Fixtures.sized(2, 2);
        out.ordered(2);
        out.grid(1, 1, -256, -256, 256, 0);
        out.grey(0, 0, 4);
        s.due("those in the region alone", 1, out::compose);
        s.due("not those of the page", 0, () -> out.told(10));
    }

    private void countUnderPattern() {
        Subject x = Fixtures.sized(6, 6);
        x.row(2, 0b001000);
        x.patterns(2, 3, 1);
        x.grid(6, 6, 0, 0, 256, 0);
        s.due("a dark sample at 3, 2 under patterns of 2 by 3", "0 0 1 1 0 0 0 0 1 1 0 0 0 0 1 1 0 0 0 0 0 0 0 0"
                + " 0 0 0 0 0 0 0 0 0 0 0 0", x::counts);
        x.patterns(3, 2, 1);
        s.due("under patterns of 3 by 2", "0 0 0 0 0 0 0 1 1 1 0 0 0 1 1 1 0 0 0 0 0 0 0 0 0 0 0 0 0 0 0 0 0 0 0 0",
                x::counts);
        Subject all = Fixtures.sized(8, 8);
        for (int y = 0; y < 8; y++) {
            all.row(y, -1);
        }
        all.patterns(8, 8, 2);
        s.due("all 64", 64, () -> all.count(0, 0));
        all.row(7, 0x7F);
        s.due("63", 63, () -> all.count(0, 0));
        all.put(0, 0, 0, true);
        s.due("the pattern's own cells are nothing to it", 63, () -> all.count(0, 0));
        all.grey(0, 0, 1);
        s.due("nor is the grey", 63, () -> all.count(0, 0));
        all.way(1, 1);
        all.compose();
        s.due("nor is the region", 63, () -> all.count(0, 0));
        all.patterns(1, 1, 2);
        s.due("one sample", 1, () -> all.count(0, 0));
    }

    private void countAcrossEdges() {
        Subject x = Fixtures.sized(32, 32);
        for (int y = 0; y < 32; y++) {
            x.row(y, -1);
        }
        x.patterns(8, 8, 1);
        int[][] seen = {
            {-256, 0}, {-9, 0}, {-8, 0}, {-7, 1}, {-6, 2}, {-1, 7}, {0, 8}, {1, 8}, {23, 8}, {24, 8}, {25, 7}, {30, 2},
            {31, 1}, {32, 0}, {33, 0}, {256, 0},
        };
        for (int[] p : seen) {
            x.grid(1, 1, 256 * p[0], 0, 256, 0);
            s.due("at column " + p[0], 8 * p[1], () -> x.count(0, 0));
            x.grid(1, 1, 0, 256 * p[0], 256, 0);
            s.due("at row " + p[0], 8 * p[1], () -> x.count(0, 0));
            x.grid(1, 1, 256 * p[0], 256 * p[0], 256, 0);
            s.due("at both", p[1] * p[1], () -> x.count(0, 0));
        }
        x.grid(16, 16, 65536, 65536, 4096, 4096);
        s.due("the farthest place", 0, () -> x.count(15, 15));
        x.grid(16, 16, -65536, -65536, -4096, -4096);
        s.due("the farthest place on the other side", 0, () -> x.count(15, 15));
    }

    private void count() {
        Subject x = Fixtures.sized(4, 2);
        x.row(0, 0b0111);
        x.row(1, 0b1001);
        x.patterns(2, 2, 1);
        x.grid(3, 2, -256, 0, 512, 0);
        s.due("each place", "2 2 1 0 0 0", x::counts);
        x.way(2, 1);
        s.due("skipped or not", "2 2 1 0 0 0", x::counts);
        x.row(1, 0);
        s.due("the page at hand", "1 2 0 0 0 0", x::counts);
        for (int[] place : new int[][] {{-1, 0}, {3, 0}, {0, -1}, {0, 3}, {LEAST, 0}, {0, GREATEST}, {16, 16}}) {
            s.refused("no place " + place[0] + ", " + place[1], Sentences.INDEX, b -> b.count(place[0], place[1]));
        }
    }

    /** Patterns of 8 by 1, with so many dark cells each, on a page of one row and one place. */
    private static Subject darkOnes(int... dark) {
        Subject x = Fixtures.sized(8, 1);
        x.patterns(8, 1, dark.length);
        for (int k = 0; k < dark.length; k++) {
            for (int u = 0; u < dark[k]; u++) {
                x.put(k, u, 0, true);
            }
        }
        return x;
    }

    /** The greys that the counts 0 .. 8 get. */
    private static String shades(Subject x) {
        StringBuilder all = new StringBuilder();
        for (int dark = 0; dark <= 8; dark++) {
            x.row(0, 255 >> 8 - dark);
            x.shade();
            all.append(dark == 0 ? "" : " ").append(x.greyAt(0, 0));
        }
        return all.toString();
    }

    private void nearest() {
        s.due("as many as the count", "0 1 2 3 4 5 6 7 8", () -> shades(darkOnes(0, 1, 2, 3, 4, 5, 6, 7, 8)));
        s.due("whatever their numbers", "8 7 6 5 4 3 2 1 0", () -> shades(darkOnes(8, 7, 6, 5, 4, 3, 2, 1, 0)));
        s.due("the nearest", "1 1 1 2 2 2 0 0 0", () -> shades(darkOnes(7, 0, 4)));
        s.due("one pattern", "0 0 0 0 0 0 0 0 0", () -> shades(darkOnes(5)));
        Subject x = Fixtures.sized(8, 8);
        x.patterns(8, 8, 64);
        for (int u = 0; u < 8; u++) {
            x.row(u, -1);
            for (int v = 0; v < 8; v++) {
                x.put(63, u, v, true);
            }
        }
        x.put(62, 0, 0, true);
        s.due("64 of 64", 1, x::shade);
        s.due("it is the last pattern", 63, () -> x.greyAt(0, 0));
        x.row(7, 0x7F);
        x.shade();
        s.due("63 is nearest to 64", 63, () -> x.greyAt(0, 0));
        for (int y = 0; y < 8; y++) {
            x.row(y, y == 3 ? 4 : 0);
        }
        x.shade();
        s.due("1 of 64", 62, () -> x.greyAt(0, 0));
        x.row(3, 0);
        x.shade();
        s.due("0 of 64", 0, () -> x.greyAt(0, 0));
        placesOutsideAreShaded();
    }

    private void placesOutsideAreShaded() {
        Subject x = Fixtures.sized(2, 1);
        x.patterns(1, 1, 2);
        x.put(0, 0, 0, true);
        x.row(0, 0b01);
        x.grid(4, 1, -256, 0, 256, 0);
        x.way(2, 1);
        s.due("those of count 0, also outside, also if they are skipped", 3, x::shade);
        s.due("each place", "1 0 1 1", x::greys);
    }

    private void lesserOfTwo() {
        s.due("3 is as near to 2 as to 4", "0 0 0 0 1 1 1 1 1", () -> shades(darkOnes(2, 4)));
        s.due("the lesser number of dark samples, not of a pattern", "1 1 1 1 0 0 0 0 0", () -> shades(darkOnes(4, 2)));
        s.due("4 is as near to 0 as to 8", "1 1 1 1 1 0 0 0 0", () -> shades(darkOnes(8, 0)));
        s.due("and in the other order", "0 0 0 0 0 1 1 1 1", () -> shades(darkOnes(0, 8)));
        s.due("a number between them is nearer", "1 1 1 2 2 2 0 0 0", () -> shades(darkOnes(6, 1, 4)));
    }

    private void firstOfSeveral() {
        s.due("two alike", "0 0 0 0 0 0 0 0 0", () -> shades(darkOnes(3, 3)));
        s.due("pairs", "1 1 1 1 0 0 0 0 0", () -> shades(darkOnes(4, 2, 2, 4)));
        s.due("a nearer one behind them", "0 0 0 0 3 3 3 3 3", () -> shades(darkOnes(2, 2, 2, 5, 5)));
        Subject x = Fixtures.sized(8, 1);
        x.patterns(1, 1, 64);
        x.row(0, 1);
        x.grey(0, 0, 63);
        s.due("64 alike", 1, x::shade);
        s.due("the first of them", 0, () -> x.greyAt(0, 0));
    }

    private void shadeTellsOthers() {
        Subject x = Fixtures.onePlane(16, 16);
        s.due("none", 0, x::shade);
        x.row(15, 1 << 15);
        s.due("one", 1, x::shade);
        s.due("the last place", 1, () -> x.greyAt(15, 15));
        s.due("none again", 0, x::shade);
        for (int y = 0; y < 16; y++) {
            x.row(y, -1);
        }
        s.due("all but one", 255, x::shade);
        for (int y = 0; y < 16; y++) {
            x.row(y, 0);
        }
        s.due("all", 256, x::shade);
        s.due("the page stays", 0, () -> x.told(10));
    }
}
