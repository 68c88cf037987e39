import java.util.Arrays;

/** Sentences of promises 18 and 19: planes, contexts, states, runs, and the bytes that are made. */
final class WritingSentences {
    private static final int LEAST = Integer.MIN_VALUE;
    private static final int GREATEST = Integer.MAX_VALUE;

    private final Sentences s;

    WritingSentences(Sentences s) {
        this.s = s;
    }

    void test() {
        s.term("2, 18 and 22", "BYTES. The PLANES are as many as the greatest number of a pattern has bits.",
                this::planes);
        s.term("18", "They are told from the highest one on,", this::highestPlaneFirst);
        s.term("18", "each row by row,", this::rowByRow);
        s.term("18", "its bit for each place that is not skipped:", this::eachPlaceNotSkipped);
        s.term("18", "a grey's bit of this plane xor its bit of the plane above (0 above the highest one).",
                this::grayCode);
        s.term("18 and 23", "Before a bit is told it is FORETOLD: by a CONTEXT of six bits, told in this plane (0 where"
                + " there is no such place or it is skipped):", this::noSuchPlace);
        s.term("18 and 23", "of the places (i - 1, j), (i - 2, j), (i - 1, j - 1), (i, j - 1), (i + 1, j - 1),",
                this::placesOfContext);
        s.term("18 and 23", "and the bit of this place told in the plane above;", this::planeAbove);
        s.term("18, 22 and 23", "each context has a STATE, -1 when a plane begins (before its first bit is wanted):",
                this::stateAtFirst);
        s.term("18", "1 is foretold if it is not below 0.", this::foretold);
        s.term("18 and 23", "Behind a bit 1 a state below 0 rises by 2, another one by 1, to 7 at most;", this::rises);
        s.term("18 and 23", "behind a bit 0 a state below 0 falls by 1, another one by 2, to -8 at least.",
                this::falls);
        runTests();
        s.promise(18, "The greys become bytes:", this::greysBecomeBytes);
        s.promise(18, "how many.", this::howManyBytes);
        s.promise(19, "A byte of those that were made last.", this::byteMadeLast);
    }

    private void runTests() {
        s.term("18", "What is written are RUNS: how many bits in turn were as foretold, before each one that was not,"
                + " and, at the end of all, behind the last of these (one more than there are such bits).", this::runs);
        s.term("18 and 22", "A run r comes with a number k: the least from 0 for which m 2^k is not below a, at most"
                + " 8;", this::leastK);
        s.term("18 and 22", "a being 4 at first and more by each run before, m 1 and more by 1;", this::sums);
        s.term("18 and 22", "behind a run that makes m 32, both are halved, rounded down.", this::halved);
        s.term("18 and 22", "If r by 2^k, rounded down, is less than 12: so many ones, a zero, and the k lowest bits of"
                + " r;", this::shortForm);
        s.term("18 and 22", "else twelve ones and r in 13 bits.", this::longForm);
        s.term("18", "Bits stand from the highest of a byte on;", this::highestBitFirst);
        s.term("18", "the last byte ends with zeros.", this::zerosAtEnd);
    }

    /** What the greys of one place become, of so many patterns. */
    private static String one(int patterns, int grey) {
        Subject x = Fixtures.onePlace(patterns);
        x.grey(0, 0, grey);
        return x.written();
    }

    /** What the bits of places in a column become: each is foretold by the one above it. */
    private static String column(int... bits) {
        Subject x = Fixtures.onePlane(1, bits.length);
        x.setGreys(bits);
        return x.written();
    }

    /** The contexts behind those bits: number, state and how many bits. */
    private static String columnContexts(int... bits) {
        Subject x = Fixtures.onePlane(1, bits.length);
        x.setGreys(bits);
        x.encode();
        return x.contexts();
    }

    private static int[] ones(int many, int... behind) {
        int[] bits = Arrays.copyOf(behind, many + behind.length);
        System.arraycopy(behind, 0, bits, many, behind.length);
        Arrays.fill(bits, 0, many, 1);
        return bits;
    }

    private static int[] zeros(int many, int... behind) {
        int[] bits = new int[many + behind.length];
        System.arraycopy(behind, 0, bits, many, behind.length);
        return bits;
    }

    private void planes() {
        // A run of as many bits as there are planes: 000, 001, 010, 011, 1000, 1001, 1010.
        int[] bytes = {0, 32, 64, 96, 128, 144, 160};
        int[][] planes = {
            {1, 0}, {2, 1}, {3, 2}, {4, 2}, {5, 3}, {7, 3}, {8, 3}, {9, 4}, {15, 4}, {16, 4}, {17, 5}, {31, 5}, {32, 5},
            {33, 6}, {63, 6}, {64, 6},
        };
        for (int[] p : planes) {
            s.due("one light place of " + p[0] + " patterns", bytes[p[1]], () -> one(p[0], 0));
            Subject x = Fixtures.onePlace(p[0]);
            s.due("they are read", 1, () -> x.read(bytes[p[1]]));
            s.due("one more is behind the last bit", -3, () -> x.readBits(Bits.run(p[1] + 1, 2)));
        }
        Subject x = Fixtures.sized(8, 8);
        x.ordered(4);
        s.due("of 17 ordered ones", 5, () -> x.told(5));
        s.due("a run of 5", "144", x::written);
    }

    private void highestPlaneFirst() {
        s.due("1 of 4 is 0, 1: runs 1, 0", Bits.told("001 000"), () -> one(4, 1));
        s.due("3 of 4 is 1, 0: runs 0, 1", Bits.told("000 01"), () -> one(4, 3));
        s.due("1 of 64: runs 5, 0", Bits.told("1001 0000"), () -> one(64, 1));
        s.due("63 of 64 is 1, 0, 0, 0, 0, 0: runs 0, 5", Bits.told("000 1101"), () -> one(64, 63));
        s.due("a whole plane before the next: 8 bits, then 4 of 8", Bits.told("111000 0011"), () -> {
            Subject x = Fixtures.sized(8, 8);
            x.patterns(1, 1, 4);
            x.grid(4, 2, 0, 0, 256, 0);
            x.grey(0, 1, 1);
            return x.written();
        });
    }

    private void rowByRow() {
        s.due("(0, 0): runs 0, 3", Bits.told("000 101"), () -> square(1, 0, 0, 0));
        s.due("(1, 0): runs 1, 2", Bits.told("001 010"), () -> square(0, 1, 0, 0));
        s.due("(0, 1): runs 2, 1", Bits.told("010 001"), () -> square(0, 0, 1, 0));
        s.due("(1, 1): runs 3, 0", Bits.told("011 000"), () -> square(0, 0, 0, 1));
    }

    private static String square(int... greys) {
        Subject x = Fixtures.onePlane(2, 2);
        x.setGreys(greys);
        return x.written();
    }

    private void eachPlaceNotSkipped() {
        Subject x = Fixtures.sized(3, 3);
        x.ordered(1);
        x.grid(5, 5, -256, -256, 256, 0);
        s.due("25 are told", Bits.told("1111110 01"), x::written);
        x.way(2, 1);
        s.due("9 are told", Bits.told("110 01"), x::written);
        x.grid(3, 3, 0, 0, 256, 0);
        s.due("none is outside", Bits.told("110 01"), x::written);
        x.grid(4, 4, 768, 0, 256, 0);
        s.due("all are outside", Bits.told("000"), x::written);
        s.due("one run", 1, () -> x.told(11));
        x.grid(4, 4, 512, 512, 256, 0);
        s.due("one is not", Bits.told("001"), x::written);
    }

    private void grayCode() {
        int[] codes = {0b00, 0b01, 0b11, 0b10};
        String[] bits = {"010", "001 000", "000 00 00", "000 01"};
        for (int grey = 0; grey < 4; grey++) {
            int asked = grey;
            s.due("grey " + grey + " as " + codes[grey], Bits.told(bits[grey]), () -> one(4, asked));
        }
        s.due("42 of 64: six ones, each not as foretold", Bits.told("000 00 00 0 0 0 0"), () -> one(64, 42));
        s.due("21 of 64: 0, then five ones", Bits.told("001 000 00 00 0 0"), () -> one(64, 21));
        s.due("32 of 64: 1, 1, then zeros", Bits.told("000 00 1100"), () -> one(64, 32));
        s.due("31 of 32 is 1, then zeros: 0 above the highest plane", Bits.told("000 1100"), () -> one(32, 31));
        for (int v = 0; v < 64; v++) {
            int grey = v;
            Subject x = Fixtures.onePlace(64);
            x.grey(0, 0, grey);
            x.encode();
            x.pass();
            x.grey(0, 0, 63 - grey);
            x.decode();
            s.due("grey " + grey + " again", grey, () -> x.greyAt(0, 0));
        }
    }

    private void noSuchPlace() {
        s.due("(-1, 1) is not (15, 0)", "0:-8*30 2:-2*1 4:-2*1", () -> contextsOf(2, 16, 2, zeros(15, 1)));
        s.due("(16, 0) is not (0, 1)", "0:-8*30 16:-2*1 32:-2*1", () -> contextsOf(2, 16, 2, zeros(16, 1)));
        Subject x = Fixtures.onePlane(3, 2);
        x.setGreys(1, 1, 1, 1, 1, 1);
        x.encode();
        x.grid(2, 2, 0, 0, 256, 0);
        x.encode();
        s.due("nothing is left of a wider grid", "0:-5*4", x::contexts);
        Subject skipped = Fixtures.sized(2, 2);
        skipped.ordered(1);
        skipped.grid(4, 4, -256, -256, 256, 0);
        skipped.setGreys(1, 1, 1, 1, 1, 1, 1, 1, 1, 1, 1, 1, 1, 1, 1, 1);
        skipped.way(2, 1);
        skipped.encode();
        s.due("those around are skipped", "0:1*1 6:1*1 32:1*1 44:1*1", skipped::contexts);
        s.due("the first place has none", "0:1*1", () -> columnContexts(1));
    }

    /** The contexts behind a picture of greys, row by row, and light places behind those. */
    private static String contextsOf(int patterns, int columns, int rows, int... greys) {
        Subject x = Fixtures.sized(32, 32);
        x.patterns(1, 1, patterns);
        x.grid(columns, rows, 0, 0, 256, 0);
        x.setGreys(greys);
        x.encode();
        return x.contexts();
    }

    private void placesOfContext() {
        s.due("one dark place, seen from five", "0:-8*10 2:-2*1 4:-2*1 8:-2*1 16:-2*1 32:-2*1",
                () -> contextsOf(2, 5, 3, zeros(7, 1)));
        s.due("all dark", "0:1*1 6:1*1 32:1*1 46:1*1 48:2*2 60:1*1 62:1*1", () -> contextsOf(2, 4, 2, ones(8)));
        s.due("not the third one before", "0:-1*2 16:-2*1 32:-2*1", () -> contextsOf(2, 4, 1, 1));
        s.due("not two rows above, not two columns on", "0:-5*7 2:-2*1 4:-2*1", () -> contextsOf(2, 3, 3, 0, 0, 1));
    }

    private void planeAbove() {
        s.due("6 is told 1, 0, 1: 0 above, though its bit is 1", "0:1*1", () -> contextsOf(8, 1, 1, 6));
        s.due("2 is told 0, 1, 1: 1 above", "1:1*1", () -> contextsOf(8, 1, 1, 2));
        s.due("7 is told 1, 0, 0: not two planes above", "0:-2*1", () -> contextsOf(8, 1, 1, 7));
        s.due("0 above the highest one", "0:1*1", () -> contextsOf(2, 1, 1, 1));
        s.due("with all others", "1:1*1 7:1*1 33:1*1 47:1*1 49:2*2 61:1*1 63:1*1",
                () -> contextsOf(4, 4, 2, 2, 2, 2, 2, 2, 2, 2, 2));
        s.due("this place's alone", "0:-8*7 1:-2*1", () -> contextsOf(4, 4, 2, 0, 3));
    }

    private void stateAtFirst() {
        s.due("of the second plane, by its own bits", "0:-8*16", () -> contextsOf(4, 16, 1));
        s.due("0, 1: from -1 to 1, not from -2", "0:1*1", () -> contextsOf(4, 1, 1, 1));
        Subject x = Fixtures.onePlace(4);
        x.grid(1, 2, 0, 0, 256, 0);
        x.setGreys(3, 0);
        s.due("what rose in the first plane foretells nothing in the second", Bits.told("000 101"), x::written);
        s.due("nor in the next encode()", Bits.told("000 101"), x::written);
        x.setGreys(0, 0);
        s.due("the bits end before the first plane's second bit", -2, () -> x.readBits("000 11111"));
        s.due("its first one was told", "0:1*1", x::contexts);
        s.due("the bits end before the second plane's first bit", -2, () -> x.readBits("001 11111"));
        s.due("that plane has begun", "", x::contexts);
        s.due("the bits end before its second bit", -2, () -> x.readBits("010 11111"));
        s.due("its first one was told too", "0:1*1", x::contexts);
    }

    private void foretold() {
        s.due("-1 foretells 0: a run of 1", "32", () -> column(0));
        s.due("-1 does not foretell 1: runs 0, 0", "0", () -> column(1));
        s.due("0 foretells 1: runs 1, 2", Bits.told("001 010"), () -> column(0, 1, 0, 1));
        s.due("0 does not foretell 0: runs 1, 1, 0", Bits.told("001 001 00"), () -> column(0, 1, 0, 0));
        s.due("1 foretells 1: runs 0, 2", Bits.told("000 100"), () -> column(1, 0, 1));
        s.due("1 does not foretell 0: runs 0, 1, 0", Bits.told("000 01 00"), () -> column(1, 0, 0));
        s.due("-2 foretells 0: a run of 2", "64", () -> column(0, 0));
        s.due("7 foretells 1: runs 0, 0, 8", Bits.told("000 00 11110 0"), () -> column(ones(10)));
        s.due("-8 foretells 0: runs 8, 0", Bits.told("11000 0000"), () -> column(zeros(8, 1)));
    }

    private void rises() {
        s.due("-1 to 1", "0:1*1", () -> columnContexts(1));
        s.due("-2 to 0", "0:0*2", () -> columnContexts(0, 1));
        s.due("-3 to -1", "0:-1*3", () -> columnContexts(0, 0, 1));
        s.due("-7 to -5", "0:-5*7", () -> columnContexts(zeros(6, 1)));
        s.due("-8 to -6", "0:-6*8", () -> columnContexts(zeros(7, 1)));
        s.due("0 to 1", "0:1*3 4:-2*1", () -> columnContexts(0, 1, 0, 1));
        s.due("1 to 2", "0:2*2 4:-2*1", () -> columnContexts(1, 0, 1));
        for (int many = 1; many <= 14; many++) {
            int[] bits = ones(many + 1);
            s.due(many + " ones", "0:1*1 4:" + Math.min(7, many) + "*" + many, () -> columnContexts(bits));
        }
        s.due("6 and a 0", "0:1*1 4:4*7", () -> columnContexts(ones(7, 0)));
        s.due("7 and a 0", "0:1*1 4:5*8", () -> columnContexts(ones(8, 0)));
        s.due("7 at most, and a 0", "0:1*1 4:5*9", () -> columnContexts(ones(9, 0)));
        s.due("7 at most, twice, and a 0", "0:1*1 4:5*10", () -> columnContexts(ones(10, 0)));
    }

    private void falls() {
        for (int many = 1; many <= 14; many++) {
            int[] bits = zeros(many);
            s.due(many + " zeros", "0:" + Math.max(-8, -1 - many) + "*" + many, () -> columnContexts(bits));
        }
        s.due("-8 at least, and a 1", "0:-6*9", () -> columnContexts(zeros(8, 1)));
        s.due("-8 at least, twice, and a 1", "0:-6*10", () -> columnContexts(zeros(9, 1)));
        s.due("0 to -2", "0:-2*3 4:-2*1", () -> columnContexts(0, 1, 0, 0));
        s.due("1 to -1", "0:1*1 4:-1*2", () -> columnContexts(1, 1, 0));
        s.due("2 to 0", "0:1*1 4:0*3", () -> columnContexts(1, 1, 1, 0));
        s.due("-1 to -2", "0:1*1 4:-2*1", () -> columnContexts(1, 0));
    }

    private void runs() {
        Subject x = Fixtures.onePlane(1, 4);
        s.due("all as foretold: 4", Bits.told("1000"), x::written);
        s.due("one run", 1, () -> x.told(11));
        x.setGreys(0, 0, 0, 1);
        s.due("the last one not: 3, 0", Bits.told("011 000"), x::written);
        s.due("two runs", 2, () -> x.told(11));
        x.setGreys(1, 1, 0, 1);
        s.due("1 1 0 1: none but the last one: 0, 0, 0, 1", Bits.told("000 00 00 10"), x::written);
        Subject one = Fixtures.onePlace(2);
        one.grey(0, 0, 1);
        s.due("a single one that is not: 0, 0", Bits.told("000 00"), one::written);
        s.due("its runs", 2, () -> one.told(11));
        Subject none = Fixtures.onePlace(1);
        s.due("no bits: 0", "0", none::written);
        s.due("its run", 1, () -> none.told(11));
        s.due("on from plane to plane", Bits.told("1010"), () -> one(64, 0));
        Subject all = Fixtures.sized(32, 32);
        all.patterns(1, 1, 64);
        all.grid(16, 16, 0, 0, 256, 0);
        s.due("1536 bits in one run", 4, all::encode);
        s.due("one run of them", 1, () -> all.told(11));
        x.patterns(1, 1, 4);
        x.setGreys(2, 0, 0, 0);
        s.due("no run ends with a plane: 0, 1, 1, 3", Bits.told("000 01 01 101"), x::written);
        s.due("one more than there are bits not as foretold", 4, () -> x.told(11));
    }

    /** A picture of 256 places whose first run is r: all light but for one place, in the lowest plane. */
    private static Subject firstRun(int r, int planes) {
        Subject x = Fixtures.sized(32, 32);
        x.patterns(1, 1, 1 << planes);
        x.grid(16, 16, 0, 0, 256, 0);
        int place = r - 256 * (planes - 1);
        x.grey(place % 16, place / 16, 1);
        return x;
    }

    private void leastK() {
        int[][] least = {
            {2, 2}, {3, 2}, {4, 2}, {5, 3}, {6, 3}, {11, 3}, {12, 3}, {13, 4}, {27, 4}, {28, 4}, {29, 5}, {59, 5},
            {60, 5}, {61, 6}, {123, 6}, {124, 6}, {125, 7}, {251, 7}, {252, 7}, {253, 8}, {254, 8},
        };
        for (int[] l : least) {
            String bits = Bits.run(l[0], 2) + Bits.run(255 - l[0], l[1]);
            s.due("k " + l[1] + " behind a run of " + l[0], Bits.told(bits), () -> firstRun(l[0], 1).written());
        }
        for (int r : new int[] {507, 508, 509, 510}) {
            String bits = Bits.run(r, 2) + Bits.run(511 - r, 8);
            s.due("k 8 behind a run of " + r, Bits.told(bits), () -> firstRun(r, 2).written());
        }
        for (int r : new int[] {1282, 1532, 1533, 1534}) {
            String bits = Bits.run(r, 2) + Bits.run(1535 - r, 8);
            s.due("k 8 at most behind a run of " + r, Bits.told(bits), () -> firstRun(r, 6).written());
        }
        s.due("k 2 at first: 3", "96", () -> column(0, 0, 0));
        s.due("k 1 behind a run of 0: 3", Bits.told("000 101"), () -> square(1, 0, 0, 0));
        s.due("k 1 still, then 0: runs 0, 0, 0, 1", Bits.told("000 00 00 10"), () -> across(1, 1, 1, 1));
    }

    private static String across(int... greys) {
        Subject x = Fixtures.onePlane(greys.length, 1);
        x.setGreys(greys);
        return x.written();
    }

    /** These runs are read, with these numbers k, and become the same bytes again. */
    private void bothWays(String what, int columns, int rows, int[] runs, String ks) {
        String bits = Bits.runs(runs, ks);
        Subject x = Fixtures.onePlane(columns, rows);
        s.due(what + " read", columns * rows, () -> x.readBits(bits));
        s.due(what + " runs", runs.length, () -> x.told(11));
        s.due(what + " written", Bits.told(bits), x::written);
        s.due(what + " runs again", runs.length, () -> x.told(11));
    }

    private void sums() {
        bothWays("4, then 14, 34, 64 by 1, 2, 3, 4", 16, 8, new int[] {10, 20, 30, 65}, "2344");
        bothWays("4, then 14, 34, 65", 16, 8, new int[] {10, 20, 31, 64}, "2345");
        bothWays("4, then 14, 34, 63", 16, 8, new int[] {10, 20, 29, 66}, "2344");
        bothWays("runs of 0: 4 by 1, 2, 3, 4, 5", 1, 4, new int[] {0, 0, 0, 0, 0}, "21100");
        bothWays("4, 4, 4, 4, 5 by 5", 1, 6, new int[] {0, 0, 0, 1, 1}, "21100");
        bothWays("4, 4, 4, 4, 6 by 5", 1, 6, new int[] {0, 0, 0, 2, 0}, "21101");
        bothWays("7 by 4 and 8 by 5", 1, 8, new int[] {1, 1, 1, 1, 0}, "22111");
        bothWays("8 by 4 and 8 by 5", 1, 8, new int[] {2, 1, 1, 0, 0}, "22211");
        bothWays("9 by 4 and 9 by 5", 1, 9, new int[] {2, 2, 1, 0, 0}, "22221");
    }

    private static int[] runsOf(int first, int zeros, int... behind) {
        int[] runs = new int[1 + zeros + behind.length];
        runs[0] = first;
        System.arraycopy(behind, 0, runs, 1 + zeros, behind.length);
        return runs;
    }

    private void halved() {
        bothWays("32 by 32 to 16 by 16", 10, 7, runsOf(28, 30, 11), "2 44 3333 22222222 1111111111111111 0");
        bothWays("33 by 32 to 16 by 16", 10, 7, runsOf(29, 30, 10), "2 5 44 3333 22222222 111111111111111 0");
        bothWays("34 by 32 to 17 by 16", 10, 7, runsOf(30, 30, 9), "2 5 44 3333 22222222 111111111111111 1");
        String until31 = "2 55 4444 33333333 222222222222222 ";
        bothWays("61 by 31 is not halved", 10, 9, runsOf(57, 30, 2), until31 + "1 1");
        bothWays("62 by 31 is not halved", 10, 9, runsOf(58, 30, 1), until31 + "1 1");
        bothWays("63 by 31 is not halved", 10, 9, runsOf(59, 30, 0), until31 + "2 1");
        String until32 = "2 5 44 3333 22222222 111111111111111 0 ";
        int[] zeros = new int[15];
        bothWays("32 by 32 again", 12, 8, runsOf(29, 30, joined(16, zeros, 4)), until32 + "111111111111111 0");
        bothWays("33 by 32 again", 12, 8, runsOf(29, 30, joined(17, zeros, 3)), until32 + "111111111111111 0");
        bothWays("34 by 32 again", 12, 8, runsOf(29, 30, joined(18, zeros, 2)), until32 + "111111111111111 1");
    }

    private static int[] joined(int first, int[] between, int last) {
        int[] all = new int[between.length + 2];
        all[0] = first;
        System.arraycopy(between, 0, all, 1, between.length);
        all[all.length - 1] = last;
        return all;
    }

    private void shortForm() {
        s.due("k 2, r 0", Bits.told("000 00"), () -> column(1));
        s.due("k 2, r 3", Bits.told("011"), () -> column(0, 0, 0));
        s.due("k 2, r 4", Bits.told("1000"), () -> column(0, 0, 0, 0));
        s.due("k 2, r 5", Bits.told("1001"), () -> column(0, 0, 0, 0, 0));
        s.due("k 2, r 46: 11 ones, 10; then 209 with k 5", Bits.told("111111111110 10 1111110 10001"),
                () -> firstRun(46, 1).written());
        s.due("k 2, r 47: 11 ones, 11; then 208 with k 5", Bits.told("111111111110 11 1111110 10000"),
                () -> firstRun(47, 1).written());
        s.due("k 0, r 10", Bits.told("000 00 00 11111111110"), () -> across(ones(13)));
        s.due("k 0, r 11", Bits.told("000 00 00 111111111110"), () -> across(ones(14)));
        s.due("k 8, r 2: a zero and 8 bits", Bits.told("111111111111 0000011111101 0 00000010"),
                () -> firstRun(253, 1).written());
        bothWaysDeep("k 6, r 766", new int[] {100, 766, 668}, "268");
        bothWaysDeep("k 6, r 767", new int[] {100, 767, 667}, "268");
    }

    private void longForm() {
        s.due("k 2, r 48; then 207 with k 5", Bits.told("111111111111 0000000110000 1111110 01111"),
                () -> firstRun(48, 1).written());
        s.due("k 2, r 49; then 206 with k 5", Bits.told("111111111111 0000000110001 1111110 01110"),
                () -> firstRun(49, 1).written());
        s.due("k 0, r 12", Bits.told("000 00 00 111111111111 0000000001100"), () -> across(ones(15)));
        s.due("k 0, r 13", Bits.told("000 00 00 111111111111 0000000001101"), () -> across(ones(16)));
        bothWaysDeep("k 6, r 768", new int[] {100, 768, 666}, "268");
        bothWaysDeep("k 6, r 769", new int[] {100, 769, 665}, "268");
        Subject all = sixPlanes();
        s.due("the longest, 1536", Bits.told("111111111111 0011000000000"), all::written);
        all.grey(15, 15, 1);
        s.due("1535, and 0 with k 8", Bits.told("111111111111 0010111111111 0 00000000"), all::written);
    }

    private static Subject sixPlanes() {
        Subject x = Fixtures.sized(32, 32);
        x.patterns(1, 1, 64);
        x.grid(16, 16, 0, 0, 256, 0);
        return x;
    }

    /** The same as bothWays, with 256 places and six planes. */
    private void bothWaysDeep(String what, int[] runs, String ks) {
        String bits = Bits.runs(runs, ks);
        Subject x = sixPlanes();
        s.due(what + " read", 256, () -> x.readBits(bits));
        s.due(what + " written", Bits.told(bits), x::written);
        s.due(what + " runs", runs.length, () -> x.told(11));
    }

    private void highestBitFirst() {
        s.due("001", "32", () -> column(0));
        s.due("010", "64", () -> column(0, 0));
        s.due("1000", "128", () -> column(0, 0, 0, 0));
        s.due("001 001 00, a whole byte", "36", () -> column(0, 1, 0, 0));
        s.due("000 00 110 0, on in the next byte", "6 0", () -> one(64, 32));
        s.due("000 00 00 1 0: the byte's last bit", "1 0", () -> across(1, 1, 1, 1));
        s.due("000 00 00 11111111110", "1 255 128", () -> across(ones(13)));
    }

    private void zerosAtEnd() {
        s.due("3 bits", "96", () -> column(0, 0, 0));
        s.due("7 bits, 000 00 00", "0", () -> one(4, 2));
        s.due("8 bits, 001 001 00", "36", () -> column(0, 1, 0, 0));
        s.due("9 bits, 000 00 1100", "6 0", () -> one(64, 32));
        Subject x = Fixtures.onePlane(16, 16);
        s.due("25 bits", "255 240 128 0", x::written);
        x.grey(14, 15, 1);
        s.due("34 bits of others", Bits.told("111111111111 0000011111110 0 00000001"), x::written);
        x.grey(14, 15, 0);
        s.due("zeros again, whatever stood there", "255 240 128 0", x::written);
    }

    private void greysBecomeBytes() {
        Subject x = Fixtures.onePlane(2, 2);
        x.setGreys(0, 1, 1, 0);
        x.row(0, 0b11);
        x.encode();
        String first = x.made();
        s.due("the greys stay", "0 1 1 0", x::greys);
        s.due("the page stays", 2, () -> x.told(10));
        s.due("the region stays", false, () -> x.at(0, 0));
        s.due("no byte has come", 0, () -> x.told(9));
        s.due("the same again", first, x::written);
        x.setGreys(0, 0, 0, 0);
        s.due("what is made stays with other greys", first, x::made);
        s.due("until they become bytes", Bits.told("1000"), x::written);
        x.encode();
        x.pass();
        x.setGreys(1, 1, 1, 1);
        s.due("they are read again", 4, x::decode);
        s.due("as they were", "0 0 0 0", x::greys);
    }

    /** The dearest picture has a run of 12 where k is 0, and runs of 0 elsewhere: no other 1536 bits take more. */
    private static String dearest() {
        StringBuilder bits = new StringBuilder();
        int a = 4;
        int m = 1;
        for (int n = 0; n < 721; n++) {
            int r = m >= a && n < 720 ? 12 : 0;
            bits.append(Bits.run(r, m >= a ? 0 : 2 * m >= a ? 1 : 2));
            a += r;
            m++;
            if (m == 32) {
                a /= 2;
                m = 16;
            }
        }
        return bits.toString();
    }

    private void howManyBytes() {
        s.due("no bits but a run of 0", 1, () -> Fixtures.onePlace(1).encode());
        s.due("7 bits", 1, () -> lengthOf(4, 2));
        s.due("9 bits", 2, () -> lengthOf(64, 32));
        s.due("8 bits", 1, () -> column(0, 1, 0, 0).split(" ").length);
        String dearest = dearest();
        int[] bytes = Bits.bytes(dearest);
        s.due("the dearest picture's bits", 3010, dearest::length);
        Subject x = sixPlanes();
        s.due("it is read", 256, () -> x.read(bytes));
        s.due("all of it", 377, x::encode);
        s.due("told", 377, () -> x.told(8));
        s.due("in 721 runs", 721, () -> x.told(11));
        s.due("its last byte", bytes[376], () -> x.byteAt(376));
        s.due("none behind it", "throws.IndexOutOfBoundsException", () -> x.byteAt(377));
        s.due("its bytes come", 377, x::pass);
        s.due("and are read", 256, x::decode);
    }

    private static int lengthOf(int patterns, int grey) {
        Subject x = Fixtures.onePlace(patterns);
        x.grey(0, 0, grey);
        return x.encode();
    }

    private void byteMadeLast() {
        Subject x = Fixtures.onePlane(16, 16);
        s.due("none is made yet", "throws.IndexOutOfBoundsException", () -> x.byteAt(0));
        x.encode();
        s.due("the first", 255, () -> x.byteAt(0));
        s.due("the second", 240, () -> x.byteAt(1));
        s.due("the third", 128, () -> x.byteAt(2));
        s.due("the last", 0, () -> x.byteAt(3));
        s.due("none behind it", "throws.IndexOutOfBoundsException", () -> x.byteAt(4));
        x.feed(77);
        s.due("not one that came", 255, () -> x.byteAt(0));
        x.decode();
        s.due("nor one that was read", "255 240 128 0", x::made);
        x.grid(1, 1, 0, 0, 256, 0);
        x.patterns(1, 1, 1);
        s.due("whatever is else since", "255 240 128 0", x::made);
        x.encode();
        s.due("one is made last", "0", x::made);
        s.due("none of those before", "throws.IndexOutOfBoundsException", () -> x.byteAt(1));
        int many = Fixtures.busy().told(8);
        for (int i : new int[] {-1, -2, many, many + 1, 384, LEAST, GREATEST}) {
            s.refused("byte " + i + " of " + many, Sentences.INDEX, b -> b.byteAt(i));
        }
        Subject rich = Fixtures.rich();
        s.due("124 of 125", false, () -> Check.answer(() -> rich.byteAt(124)).startsWith("throws"));
        s.due("125 of 125", "throws.IndexOutOfBoundsException", () -> rich.byteAt(125));
    }
}
