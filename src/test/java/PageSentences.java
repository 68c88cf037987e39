/** Sentences of promises 1, 12, 13, 17, 24 and 25: the page, the region, what is told and what is cleared. */
final class PageSentences {
    private static final int LEAST = Integer.MIN_VALUE;
    private static final int GREATEST = Integer.MAX_VALUE;

    private final Sentences s;

    PageSentences(Sentences s) {
        this.s = s;
    }

    void test() {
        s.promise(1, "THE PAGE and THE REGION have this width and height, 1 .. 32", this::sizes);
        s.promise(1, "(others count as the nearest of these);", this::nearestSizes);
        s.promise(1, "all else is as at first.", this::asAtFirst);
        s.term("1, 12 and 17", "THE PAGE and THE REGION have a width and a height of 1 .. 32 (others count as the"
                + " nearest of these),", this::pageAndRegionOfOtherSizes);
        s.term("12, 14, 16 and 17", "columns x to the right, rows y downward,", this::directions);
        s.term("1, 12 and 17", "samples dark (1) or light (0), at first light.", this::darkAndLight);
        s.promise(12, "Row y of the page becomes what the lowest bits say, bit x for column x:", this::rowBecomes);
        s.promise(12, "how many samples were other.", this::rowTellsOthers);
        s.promise(13, "The page becomes the region:", this::pageBecomesRegion);
        s.promise(13, "how many samples were other.", this::pageTellsOthers);
        s.promise(17, "Whether a sample of the region is dark.", this::sampleOfRegion);
        toldTests();
        s.promise(25, "All is as at first,", this::cleared);
        s.promise(25, "but for the sizes.", this::sizesStay);
    }

    private void sizes() {
        for (int size : new int[] {1, 2, 31, 32}) {
            int width = size;
            int height = 33 - size;
            Subject x = Fixtures.sized(width, height);
            s.due("width " + width, width, () -> x.told(0));
            s.due("height " + height, height, () -> x.told(1));
            s.due("the page's width " + width, width, () -> x.row(0, -1));
            s.due("the page's last row of " + height, width, () -> x.row(height - 1, -1) + (height == 1 ? width : 0));
            s.due("no row " + height, "throws.IndexOutOfBoundsException", () -> x.row(height, -1));
            s.due("the region's last sample", false, () -> x.at(width - 1, height - 1));
            s.due("no column " + width, "throws.IndexOutOfBoundsException", () -> x.at(width, height - 1));
            s.due("no row " + height + " of the region", "throws.IndexOutOfBoundsException",
                    () -> x.at(width - 1, height));
        }
    }

    private void nearestSizes() {
        int[][] asked = {
            {LEAST, 1}, {LEAST + 1, 1}, {-32, 1}, {-1, 1}, {0, 1}, {1, 1}, {2, 2}, {31, 31}, {32, 32}, {33, 32},
            {34, 32}, {64, 32}, {GREATEST - 1, 32}, {GREATEST, 32},
        };
        for (int[] pair : asked) {
            Subject wide = Fixtures.sized(pair[0], 7);
            s.due("width " + pair[0], pair[1] + " 7", () -> wide.told(0) + " " + wide.told(1));
            Subject high = Fixtures.sized(7, pair[0]);
            s.due("height " + pair[0], "7 " + pair[1], () -> high.told(0) + " " + high.told(1));
        }
    }

    private void asAtFirst() {
        Subject x = Fixtures.sized(5, 4);
        s.due("all that is told", "5 4 1 1 1 0 1 1 0 0 0 0", x::toldAll);
        s.due("the operator, the background, skipping", "000", x::ways);
        s.due("the grey", "0", x::greys);
        s.due("the place", "0,0", x::places);
        s.due("the pattern", ".", () -> x.pattern(0));
        s.due("the region", "...../...../...../.....", x::region);
        s.due("the contexts", "", x::contexts);
        s.due("no byte is made", "throws.IndexOutOfBoundsException", () -> x.byteAt(0));
        s.due("none is passed", 0, x::pass);
        s.due("none has come", -2, x::decode);
        s.due("the page", "0 0 0 0 0 0 0 0 0 0 0 0 0 0 0 0 0 0 0 0", x::samples);
    }

    private void pageAndRegionOfOtherSizes() {
        Subject wide = Fixtures.sized(33, 0);
        s.due("32 columns of the page", 32, () -> wide.row(0, -1));
        s.due("one row of the page", "throws.IndexOutOfBoundsException", () -> wide.row(1, 0));
        wide.way(1, 1);
        s.due("32 samples of the region, and the place's one", 32, wide::compose);
        s.due("column 31", true, () -> wide.at(31, 0));
        s.due("no column 32", "throws.IndexOutOfBoundsException", () -> wide.at(32, 0));
        Subject high = Fixtures.sized(0, 33);
        s.due("one column of the page", 1, () -> high.row(31, -1));
        s.due("32 rows of the page", "throws.IndexOutOfBoundsException", () -> high.row(32, 0));
        high.way(1, 1);
        s.due("32 samples of the region", 32, high::compose);
        s.due("row 31", true, () -> high.at(0, 31));
        s.due("no row 32", "throws.IndexOutOfBoundsException", () -> high.at(0, 32));
    }

    private void directions() {
        Subject x = Fixtures.sized(4, 3);
        x.patterns(2, 2, 2);
        x.put(1, 1, 0, true);
        x.grid(1, 1, 256, 256, 256, 0);
        x.grey(0, 0, 1);
        x.compose();
        s.due("the pattern's right upper cell at (1, 1)", "..../..#./....", x::region);
        x.row(2, 0b0010);
        x.patterns(1, 1, 1);
        x.grid(4, 3, 0, 0, 256, 0);
        s.due("bit 1 of the page's row 2", "0 0 0 0 0 0 0 0 0 1 0 0", x::counts);
    }

    private void darkAndLight() {
        Subject x = Fixtures.sized(32, 32);
        s.due("no sample of the page is dark", 0, () -> x.told(10));
        s.due("nor of the region, corner by corner", false,
                () -> x.at(0, 0) || x.at(31, 0) || x.at(0, 31) || x.at(31, 31));
        s.due("the page is as the region", 0, x::page);
        s.due("a bit 1 is dark", 1, () -> x.row(31, LEAST));
        s.due("one dark sample", 1, () -> x.told(10));
        s.due("a bit 0 is light", 1, () -> x.row(31, 0));
        s.due("none again", 0, () -> x.told(10));
        x.way(1, 1);
        s.due("a background of 1 is dark", 1024, x::compose);
        s.due("sample by sample", true, () -> x.at(0, 0) && x.at(31, 0) && x.at(0, 31) && x.at(31, 31));
    }

    private void rowBecomes() {
        int[] widths = {1, 2, 31, 32};
        for (int width : widths) {
            Subject x = Fixtures.sized(width, 3);
            s.due("the last column of " + width, 1, () -> x.row(1, 1 << width - 1));
            s.due("it is dark", 1, () -> x.told(10));
            s.due("nothing beyond it", 0, () -> x.row(1, -1 << width - 1));
            s.due("one is dark still", 1, () -> x.told(10));
            s.due("all of them", width - 1, () -> x.row(1, -1));
            s.due("all are dark", width, () -> x.told(10));
        }
        Subject x = Fixtures.sized(3, 3);
        x.row(0, 0b001);
        x.row(1, 0b010);
        x.row(2, 0b100);
        x.row(2, 0b110);
        s.due("each row by itself, the last word counts", "1 0 0 0 1 0 0 1 1", x::samples);
        for (int y : new int[] {-1, 5, 6, LEAST, GREATEST}) {
            s.refused("row " + y + " of 5", Sentences.INDEX, b -> b.row(y, -1));
        }
    }

    private void rowTellsOthers() {
        Subject x = Fixtures.sized(32, 2);
        s.due("none was other", 0, () -> x.row(0, 0));
        s.due("one", 1, () -> x.row(0, 1));
        s.due("31", 31, () -> x.row(0, -1));
        s.due("none of 32", 0, () -> x.row(0, -1));
        s.due("one of 32", 1, () -> x.row(0, 0x7FFFFFFF));
        s.due("all 32", 32, () -> x.row(0, LEAST));
        s.due("both ways", 2, () -> x.row(0, 1));
        s.due("bits beyond the width are none", 0, () -> Fixtures.sized(3, 1).row(0, -1 << 3));
    }

    private void pageBecomesRegion() {
        Subject x = Fixtures.sized(3, 2);
        x.ordered(1);
        x.grid(3, 2, 0, 0, 256, 0);
        x.setGreys(1, 0, 0, 0, 1, 1);
        x.row(0, 0b110);
        s.due("a region that was not composed is light", 2, x::page);
        s.due("then the page is so", 0, () -> x.told(10));
        x.compose();
        s.due("the region's dark ones", 3, x::page);
        s.due("they are the page", "1 0 0 0 1 1", x::counts);
        s.due("the region stays", "#../.##", x::region);
        x.row(1, 0);
        s.due("and does not go with the page", "#../.##", x::region);
        Subject last = Fixtures.sized(32, 32);
        last.ordered(1);
        last.grid(1, 1, 31 * 256, 31 * 256, 256, 0);
        last.grey(0, 0, 1);
        last.compose();
        s.due("up to the last sample", 1, last::page);
        s.due("it is there", 1, () -> last.count(0, 0));
    }

    private void pageTellsOthers() {
        Subject x = Fixtures.sized(32, 32);
        s.due("none", 0, x::page);
        x.row(17, 1 << 31);
        s.due("one was dark", 1, x::page);
        x.way(1, 1);
        x.grid(1, 1, 65536, 0, 256, 0);
        x.compose();
        x.row(0, 1);
        s.due("all but one were light", 1023, x::page);
        s.due("none was other", 0, x::page);
        x.way(1, 0);
        x.compose();
        s.due("all were dark", 1024, x::page);
    }

    private void sampleOfRegion() {
        Subject x = Fixtures.sized(3, 2);
        x.ordered(1);
        x.grid(3, 2, 0, 0, 256, 0);
        x.setGreys(1, 0, 1, 0, 0, 1);
        x.row(1, 0b111);
        s.due("nothing before it is composed", ".../...", x::region);
        x.compose();
        s.due("the first and the last ones", "#.#/..#", x::region);
        x.setGreys(0, 0, 0, 0, 0, 0);
        s.due("until it is composed again", "#.#/..#", x::region);
        int[][] none = {{-1, 0}, {6, 0}, {0, -1}, {0, 5}, {5, 5}, {6, 4}, {LEAST, 0}, {0, GREATEST}};
        for (int[] at : none) {
            s.refused("sample " + at[0] + ", " + at[1] + " of 6 by 5", Sentences.INDEX, b -> b.at(at[0], at[1]));
        }
        Subject busy = Fixtures.busy();
        for (int[] at : new int[][] {{0, 0}, {5, 0}, {0, 4}, {5, 4}}) {
            s.due("a corner", false, () -> Check.answer(() -> busy.at(at[0], at[1])).startsWith("throws"));
        }
    }

    private void toldTests() {
        s.promise(24, "The width (what = 0), the height (1),", () -> {
            Subject x = Fixtures.sized(1, 32);
            s.due("width", 1, () -> x.told(0));
            s.due("height", 32, () -> x.told(1));
            x.patterns(3, 4, 5);
            x.grid(6, 7, 0, 0, 256, 0);
            s.due("no patterns and no grid change them", "1 32", () -> x.told(0) + " " + x.told(1));
        });
        s.promise(24, "patterns (2), their width (3) and height (4), planes (5),", this::toldOfPatterns);
        s.promise(24, "columns (6), rows (7),", this::toldOfGrid);
        s.promise(24, "bytes made last (8), bytes that came (9),", this::toldOfBytes);
        s.promise(24, "dark samples of the page (10),", this::toldOfPage);
        s.promise(24, "runs written or read last, those that were whole, also one that goes on behind the last bit"
                + " (11);", this::toldOfRuns);
        s.promise(24, "NONE for another what.", () -> {
            Subject x = Fixtures.busy();
            for (int what : new int[] {-2, -1, 12, 13, LEAST, GREATEST}) {
                s.due("what " + what, -1, () -> x.told(what));
            }
            s.due("0 is one", 6, () -> x.told(0));
            s.due("11 is one", true, () -> x.told(11) > 0);
        });
    }

    private void toldOfPatterns() {
        Subject x = Fixtures.sized(9, 9);
        int[][] all = {{1, 8, 1, 0}, {8, 1, 2, 1}, {2, 7, 3, 2}, {7, 2, 63, 6}, {8, 8, 64, 6}};
        for (int[] p : all) {
            x.patterns(p[0], p[1], p[2]);
            s.due("patterns", p[2] + " " + p[0] + " " + p[1] + " " + p[3],
                    () -> x.told(2) + " " + x.told(3) + " " + x.told(4) + " " + x.told(5));
        }
        x.ordered(7);
        s.due("ordered ones", "50 7 7 6", () -> x.told(2) + " " + x.told(3) + " " + x.told(4) + " " + x.told(5));
        x.ordered(1);
        s.due("ordered ones of a side of 1", "2 1 1 1",
                () -> x.told(2) + " " + x.told(3) + " " + x.told(4) + " " + x.told(5));
    }

    private void toldOfGrid() {
        Subject x = Fixtures.sized(9, 9);
        for (int[] g : new int[][] {{1, 16}, {16, 1}, {2, 15}, {15, 2}}) {
            x.grid(g[0], g[1], 0, 0, 256, 0);
            s.due("columns and rows", g[0] + " " + g[1], () -> x.told(6) + " " + x.told(7));
        }
        x.patterns(1, 1, 2);
        s.due("they stay with other patterns", "15 2", () -> x.told(6) + " " + x.told(7));
    }

    private void toldOfBytes() {
        Subject x = Fixtures.onePlane(16, 16);
        s.due("none", "0 0", () -> x.told(8) + " " + x.told(9));
        x.encode();
        s.due("four made", "4 0", () -> x.told(8) + " " + x.told(9));
        x.pass();
        x.feed(0);
        s.due("five came", "4 5", () -> x.told(8) + " " + x.told(9));
        x.grid(1, 1, 0, 0, 256, 0);
        x.encode();
        s.due("one made last", "1 5", () -> x.told(8) + " " + x.told(9));
        x.decode();
        s.due("none has come then", "1 0", () -> x.told(8) + " " + x.told(9));
        Subject full = Fixtures.came(3000);
        s.due("3000 came", 3000, () -> full.told(9));
    }

    private void toldOfPage() {
        Subject x = Fixtures.sized(32, 32);
        for (int y = 0; y < 32; y++) {
            x.row(y, -1);
        }
        s.due("all", 1024, () -> x.told(10));
        x.row(31, 0x7FFFFFFF);
        s.due("all but one", 1023, () -> x.told(10));
        x.way(1, 1);
        x.compose();
        s.due("not those of the region", 1023, () -> x.told(10));
        x.way(1, 0);
        x.compose();
        x.page();
        s.due("none", 0, () -> x.told(10));
        x.row(0, 1);
        s.due("one", 1, () -> x.told(10));
    }

    private void toldOfRuns() {
        Subject x = Fixtures.onePlane(2, 1);
        s.due("none before", 0, () -> x.told(11));
        x.setGreys(0, 0);
        x.encode();
        s.due("written: 2", 1, () -> x.told(11));
        x.setGreys(0, 1);
        x.encode();
        s.due("written: 1, 0", 2, () -> x.told(11));
        x.setGreys(1, 1);
        x.encode();
        s.due("written: 0, 0, 0", 3, () -> x.told(11));
        s.due("read: 2", "2 1", () -> x.readBits("010") + " " + x.told(11));
        s.due("read: 1, 0", "2 2", () -> x.readBits("001 000") + " " + x.told(11));
        s.due("no bits at all: none is whole", "-2 0", () -> x.decode() + " " + x.told(11));
        s.due("ones that end: none is whole", "-2 0", () -> x.read(255) + " " + x.told(11));
        s.due("read: 0, and one that ends", "-2 1", () -> x.readBits("000 11111") + " " + x.told(11));
        s.due("the first goes on behind the last bit", "-3 1", () -> x.readBits("011") + " " + x.told(11));
        s.due("the second one does", "-3 2", () -> x.readBits("000 100") + " " + x.told(11));
        s.due("the one at the end does", "-3 2", () -> x.readBits("001 001") + " " + x.told(11));
        s.due("a byte behind the end", "-4 1", () -> x.read(64, 0) + " " + x.told(11));
        Subject three = Fixtures.onePlace(3);
        s.due("a grey beyond the patterns", "-5 2", () -> three.readBits("000 01") + " " + three.told(11));
        three.grid(1, 1, 0, 0, 256, 0);
        three.feed(1);
        s.due("they stay until the next ones", 2, () -> three.told(11));
    }

    private void cleared() {
        Subject x = Fixtures.busy();
        x.clear();
        s.due("behind many calls", Fixtures.sized(6, 5).everything(), x::everything);
        Subject fresh = Fixtures.sized(6, 5);
        fresh.clear();
        s.due("on a new object", Fixtures.sized(6, 5).everything(), fresh::everything);
        Subject twice = Fixtures.busy();
        twice.clear();
        twice.clear();
        s.due("twice", Fixtures.sized(6, 5).everything(), twice::everything);
        Subject refused = Fixtures.onePlane(4, 4);
        refused.readBits("000 00 00 1");
        refused.clear();
        s.due("behind a reading that was refused", Fixtures.sized(32, 32).contexts(), refused::contexts);
        s.due("no runs", 0, () -> refused.told(11));
        Subject full = Fixtures.came(3000);
        full.clear();
        s.due("3000 bytes are none", 1, () -> full.feed(0));
        s.due("none is made", "throws.IndexOutOfBoundsException", () -> full.byteAt(0));
        Subject again = Fixtures.busy();
        again.clear();
        again.ordered(2);
        again.grid(3, 3, -100, 200, 600, -90);
        s.due("greys are 0 on the grid that was", "0 0 0 0 0 0 0 0 0", again::greys);
        s.due("patterns that were changed are not", "#./.#", () -> again.pattern(2));
    }

    private void sizesStay() {
        for (int[] size : new int[][] {{1, 32}, {32, 1}, {2, 31}, {33, 0}}) {
            Subject x = Fixtures.sized(size[0], size[1]);
            int width = x.told(0);
            int height = x.told(1);
            x.row(height - 1, -1);
            x.patterns(8, 8, 2);
            x.grid(16, 16, 0, 0, 256, 0);
            x.clear();
            s.due("all that is told", width + " " + height + " 1 1 1 0 1 1 0 0 0 0", x::toldAll);
            s.due("the page's last row", width, () -> x.row(height - 1, -1));
            s.due("the region's last sample", false, () -> x.at(width - 1, height - 1));
        }
    }
}
