/** Sentences of promises 20 to 23: bytes that come, reading them or refusing them, and the contexts behind that. */
final class ReadingSentences {
    private static final int LEAST = Integer.MIN_VALUE;
    private static final int GREATEST = Integer.MAX_VALUE;

    private final Sentences s;

    ReadingSentences(Sentences s) {
        this.s = s;
    }

    void test() {
        s.promise(20, "A byte comes behind those that came: how many there are.", this::byteComes);
        s.promise(20, "IllegalArgument: it is not 0 .. 255.", this::noByte);
        s.promise(20, "UnsupportedOperation: there are 3000.", this::noRoomForOne);
        s.promise(21, "All bytes that were made last come so: how many there are.", this::allCome);
        s.promise(21, "UnsupportedOperation: there would be more than 3000.", this::noRoomForAll);
        s.term("22", "READING looks at all bytes that came;", this::allBytes);
        s.term("22, 23 and 24", "a run is read when the first bit that it tells of is wanted,", this::whenWanted);
        s.term("22", "the last one at the end at the latest.", this::lastRun);
        s.term("22", "REFUSED, the first of these that it meets:", this::firstThatItMeets);
        s.term("22", "1 the bits end;", this::bitsEnd);
        s.term("22", "2 a run, when it is read, goes on behind the last bit", this::goesOn);
        s.term("22 and 23", "(none of its bits are told then);", this::noneOfItsBits);
        s.term("22", "3 behind the end a bit 1 stands, or a byte;", this::behindTheEnd);
        s.term("22", "4 (looked at when all is read) a grey beyond the patterns.", this::greyBeyond);
        s.term("22", "Else they are the greys; those skipped are 0.", this::theyAreTheGreys);
        s.promise(22, "READING: how many places were not skipped;", this::howManyPlaces);
        s.promise(22, "or -1 less the number by which it is refused.", this::lessTheNumber);
        s.promise(22, "No bytes have come then.", this::noBytesThen);
        s.promise(23, "Of a context, when the last encode() or decode() ended, refused or not:", this::whenLastEnded);
        s.promise(23, "its state (what = 0), how many bits of the plane at hand then were told by it (1).",
                this::whatOf);
        s.promise(23, "(-1 and 0 before, and with no planes.)", this::beforeAndWithNoPlanes);
        s.promise(23, "IndexOutOfBounds: it is not 0 .. 63, the first of the six bits being the highest one.",
                this::whichContext);
        s.promise(23, "IllegalArgument: another what.", this::anotherWhat);
    }

    private void byteComes() {
        Subject x = Fixtures.onePlace(64);
        s.due("one", 1, () -> x.feed(6));
        s.due("two", 2, () -> x.feed(0));
        s.due("told", 2, () -> x.told(9));
        s.due("they are read in turn: 000 00 1100", 1, x::decode);
        s.due("as 32", 32, () -> x.greyAt(0, 0));
        s.due("none is left: the next is one", 1, () -> x.feed(255));
        s.due("bytes made are none of them", 0, () -> x.told(8));
        Subject each = Fixtures.sized(8, 8);
        for (int n = 1; n <= 512; n++) {
            int fed = n;
            s.due("call " + n + " of 512", n, () -> each.feed(fed % 256));
        }
        Subject many = Fixtures.came(2998);
        s.due("2999", 2999, () -> many.feed(0));
        s.due("3000", 3000, () -> many.feed(255));
    }

    private void noByte() {
        for (int b : new int[] {-1, -2, 256, 257, -256, 512, LEAST, GREATEST}) {
            s.refused("byte " + b, Sentences.ARGUMENT, x -> x.feed(b));
        }
        Subject x = Fixtures.onePlace(1);
        for (int b : new int[] {0, 1, 127, 128, 254, 255}) {
            s.due("byte " + b, 1, () -> x.feed(b));
            s.due("read", b == 0 ? 1 : b < 32 ? -4 : b < 240 ? -3 : -2, x::decode);
        }
    }

    private void noRoomForOne() {
        Subject x = Fixtures.came(2999);
        s.due("the last one", 3000, () -> x.feed(255));
        s.due("no room", "throws.UnsupportedOperationException", () -> x.feed(0));
        s.due("nor later", "throws.UnsupportedOperationException", () -> x.feed(255));
        s.due("3000 came", 3000, () -> x.told(9));
        s.due("what is no byte comes first: 256", "throws.IllegalArgumentException", () -> x.feed(256));
        s.due("what is no byte comes first: -1", "throws.IllegalArgumentException", () -> x.feed(-1));
        x.decode();
        s.due("room again", 1, () -> x.feed(0));
        for (int b : new int[] {0, 1, 255}) {
            s.refused("byte " + b, Sentences.UNSUPPORTED, ReadingSentences::full, y -> y.feed(b));
        }
        s.refused("no byte", Sentences.ARGUMENT, ReadingSentences::full, y -> y.feed(256));
    }

    /** An object to which 3000 bytes came, small enough to be looked at. */
    private static Subject full() {
        Subject x = Fixtures.came(3000);
        x.ordered(2);
        x.grid(2, 2, 0, 0, 512, 0);
        x.setGreys(4, 1, 3, 2);
        x.encode();
        return x;
    }

    private void allCome() {
        Subject x = Fixtures.onePlane(16, 16);
        s.due("none is made: none comes", 0, x::pass);
        x.feed(9);
        s.due("none but the one that came", 1, x::pass);
        x.decode();
        x.encode();
        s.due("four", 4, x::pass);
        s.due("they stay made", "255 240 128 0", x::made);
        s.due("read", 256, x::decode);
        x.pass();
        s.due("behind those that came", 8, x::pass);
        s.due("two times four", -4, x::decode);
        x.feed(255);
        x.feed(240);
        x.grid(1, 1, 0, 0, 256, 0);
        x.patterns(1, 1, 64);
        x.grey(0, 0, 32);
        x.encode();
        s.due("made last, two, behind two", 4, x::pass);
        s.due("12 ones and 0000000001100: 12 of 6", -3, x::decode);
    }

    private void noRoomForAll() {
        for (int came : new int[] {2995, 2996, 2997, 2999, 3000}) {
            Subject x = Fixtures.came(came);
            x.ordered(1);
            x.grid(16, 16, 0, 0, 256, 0);
            x.encode();
            if (came <= 2996) {
                s.due(came + " and 4", came + 4, x::pass);
            } else {
                s.due(came + " and 4", "throws.UnsupportedOperationException", x::pass);
                s.due("none of them came", came, () -> x.told(9));
            }
        }
        Subject one = Fixtures.came(2999);
        s.due("2999 and 1", 3000, one::pass);
        s.due("3000 and 1", "throws.UnsupportedOperationException", one::pass);
        Subject none = Fixtures.came(3000);
        none.clear();
        s.due("no bytes, and none made", 0, none::pass);
        s.refused("3000 and some", Sentences.UNSUPPORTED, ReadingSentences::full, Subject::pass);
        s.refused("2999 and two", Sentences.UNSUPPORTED, () -> {
            Subject x = Fixtures.came(2999);
            x.ordered(2);
            x.grid(2, 2, 0, 0, 512, 0);
            x.setGreys(4, 1, 3, 2);
            x.encode();
            return x;
        }, Subject::pass);
    }

    private void allBytes() {
        Subject x = Fixtures.onePlane(16, 16);
        s.due("four bytes of four", 256, () -> x.read(255, 240, 128, 0));
        s.due("three of four", -2, () -> x.read(255, 240, 128));
        s.due("five", -4, () -> x.read(255, 240, 128, 0, 0));
        x.feed(255);
        x.feed(240);
        x.feed(128);
        s.due("three, and one that comes later", 256, () -> x.read(0));
        Subject full = Fixtures.came(3000);
        full.ordered(6);
        full.grid(16, 16, 0, 0, 70, 31);
        s.due("the first 125 are a picture, the others are too many", -4, full::decode);
        Subject rich = Fixtures.rich();
        rich.pass();
        s.due("125 of 125", 256, rich::decode);
        rich.pass();
        rich.feed(0);
        s.due("126 of 125", -4, rich::decode);
    }

    /** What reading these bits answers, how many runs it has read, and the contexts behind it. */
    private static String outcome(Subject x, String bits) {
        return x.readBits(bits) + ", " + x.told(11) + ", " + x.contexts();
    }

    private void whenWanted() {
        s.due("a run of 1 tells two bits; the third wants the next", "-2, 1, 0:0*2",
                () -> outcome(Fixtures.onePlane(3, 1), "001 11111"));
        s.due("a run of 0 tells one bit; the second wants the next", "-2, 1, 0:1*1",
                () -> outcome(Fixtures.onePlane(3, 1), "000 11111"));
        s.due("a run of 2 tells all three; the next is read at the end", "-2, 1, 0:-1*3",
                () -> outcome(Fixtures.onePlane(3, 1), "010 11111"));
        s.due("the first bit wants a run", "-2, 0, ", () -> outcome(Fixtures.onePlane(3, 1), "11111111"));
        s.due("each bit wants one, and the end does", "3, 4, 0:1*1 32:1*1 48:1*1",
                () -> outcome(Fixtures.onePlane(3, 1), "000 00 00 0"));
    }

    private void lastRun() {
        Subject x = Fixtures.onePlane(3, 1);
        s.due("a run of 3 is the last one", 3, () -> x.readBits("011"));
        s.due("no other run is read", 1, () -> x.told(11));
        s.due("a run of 2: another of 0 behind it", 3, () -> x.readBits("010 000"));
        s.due("two runs", 2, () -> x.told(11));
        s.due("the greys", "0 0 1", x::greys);
        s.due("zeros behind a run of 3 are none", 3, () -> x.readBits("011 00000"));
        Subject none = Fixtures.onePlace(1);
        s.due("no bits: a run of 0 at the end", 1, () -> none.readBits("000"));
        s.due("one run of no bits", 1, () -> none.told(11));
        s.due("no bits and no run", -2, none::decode);
        Subject skipped = Fixtures.onePlane(2, 2);
        skipped.grid(2, 2, 65536, 0, 256, 0);
        skipped.way(2, 1);
        s.due("all skipped: a run of 0 at the end", 0, () -> skipped.readBits("000"));
        s.due("all skipped: no run", -2, skipped::decode);
        s.due("all skipped: a run of 1", -3, () -> skipped.readBits("001"));
    }

    private void firstThatItMeets() {
        Subject x = Fixtures.onePlane(2, 1);
        s.due("a run that would be too long, but is not whole: 1", -2, () -> x.read(255, 255, 255));
        s.due("a run too long, and bits behind it: 2", -3, () -> x.readBits("011 11111 111"));
        s.due("a run too long in the last bits: 2", -3, () -> x.readBits("001 001 01"));
        s.due("at the end a run that is not whole, of ones: 1", -2, () -> x.readBits("001 11111"));
        Subject three = Fixtures.onePlace(3);
        s.due("a grey beyond, and a bit 1 behind the end: 3", -4, () -> three.readBits("000 01 001"));
        s.due("a grey beyond, and a byte behind the end: 3", -4, () -> three.read(8, 0));
        s.due("a grey beyond alone: 4", -5, () -> three.read(8));
        three.grid(2, 1, 0, 0, 256, 0);
        // Plane 1: 1, 1; plane 0: 0, 0: both would be 3 if the last run were whole.
        s.due("greys that would be beyond, but the bits end: 1", -2, () -> three.readBits("000 00 111"));
        s.due("greys that would be beyond, but a run goes on: 2", -3, () -> three.readBits("000 00 101"));
        s.due("greys beyond: 4", -5, () -> three.readBits("000 00 100"));
    }

    private void bitsEnd() {
        Subject none = Fixtures.onePlace(1);
        s.due("no bytes", -2, none::decode);
        s.due("one byte of ones", -2, () -> none.read(255));
        s.due("twelve ones and four bits", -2, () -> none.read(255, 240));
        s.due("twelve ones and twelve bits", -2, () -> none.read(255, 240, 0));
        s.due("twelve ones and thirteen bits", 1, () -> none.read(255, 240, 0, 0));
        Subject x = Fixtures.onePlane(1, 4);
        s.due("8 bits of 8: runs 1, 1, 0", 4, () -> x.readBits("001 001 00"));
        Subject five = Fixtures.onePlane(1, 5);
        s.due("8 bits and one that is wanted", -2, () -> five.readBits("001 001 00"));
        s.due("with another byte", 5, () -> five.readBits("001 001 00 00"));
        Subject lowest = Fixtures.onePlane(1, 10);
        s.due("ends between a zero and the lowest bits: 8, with k 3", -2, () -> lowest.readBits("11000 110"));
        s.due("the lowest bits are there: 1 of 1", 10, () -> lowest.readBits("11000 0001"));
        Subject long1 = Fixtures.onePlane(16, 1);
        s.due("a long run that ends with its byte", 16, () -> long1.read(1, 255, 224, 13));
        s.due("the same but for a byte", -2, () -> long1.read(1, 255, 224));
        s.due("the same but for two", -2, () -> long1.read(1, 255));
        s.due("runs 0, 0, and ones", -2, () -> long1.readBits("000 00 111"));
        s.due("two runs are whole", 2, () -> long1.told(11));
    }

    private void goesOn() {
        Subject x = Fixtures.onePlane(3, 1);
        int[] answers = {3, 3, 3, 3, -3, -3};
        String[] behind = {"00 00 0", "001", "000", "", "", ""};
        for (int r = 0; r <= 5; r++) {
            int run = r;
            s.due("a first run of " + r + " of 3 bits", answers[r], () -> x.readBits(Bits.run(run, 2) + behind[run]));
        }
        // Behind a run of 0 two bits are left, k 1; behind 0, 0 one bit is left, k 1; at the end none is, k 0.
        s.due("a second one of 2 of 2", 3, () -> x.readBits("000 100"));
        s.due("a second one of 3 of 2", -3, () -> x.readBits("000 101"));
        s.due("a third one of 1 of 1", 3, () -> x.readBits("000 00 01"));
        s.due("a third one of 2 of 1", -3, () -> x.readBits("000 00 100"));
        s.due("the last one of 0 of 0", 3, () -> x.readBits("000 00 00 0"));
        s.due("the last one of 1 of 0", -3, () -> x.readBits("000 00 00 10"));
        Subject deep = Fixtures.sized(32, 32);
        deep.patterns(1, 1, 64);
        deep.grid(16, 16, 0, 0, 256, 0);
        s.due("1535 of 1536, and 0", 256, () -> deep.readBits("111111111111 0010111111111 0 00000000"));
        s.due("1536 of 1536", 256, () -> deep.readBits("111111111111 0011000000000"));
        s.due("1537 of 1536", -3, () -> deep.readBits("111111111111 0011000000001"));
        s.due("8191 of 1536", -3, () -> deep.readBits("111111111111 1111111111111"));
        deep.way(2, 1);
        deep.grid(16, 16, 31 * 256, 31 * 256, 256, 0);
        s.due("6 of the 6 bits that are not skipped", 1, () -> deep.readBits("1010"));
        s.due("7 of them", -3, () -> deep.readBits("1011"));
    }

    private void noneOfItsBits() {
        s.due("a first run of 4 of 3", "-3, 1, ", () -> outcome(Fixtures.onePlane(3, 1), "1000"));
        s.due("a second one of 3 of 2", "-3, 2, 0:1*1", () -> outcome(Fixtures.onePlane(3, 1), "000 101"));
        s.due("a last one of 1 of 0", "-3, 2, 0:-1*3", () -> outcome(Fixtures.onePlane(3, 1), "010 001"));
        s.due("one of 3 of 3: all are told", "3, 1, 0:-4*3", () -> outcome(Fixtures.onePlane(3, 1), "011"));
        s.due("one of 2 of 1, in the second plane", "-3, 2, ", () -> outcome(Fixtures.onePlace(4), "000 100"));
        s.due("one of 3 of 2, from the first plane on", "-3, 1, ", () -> outcome(Fixtures.onePlace(4), "011"));
        Subject x = Fixtures.onePlane(3, 1);
        x.setGreys(1, 0, 1);
        x.readBits("000 101");
        s.due("the greys stay", "1 0 1", x::greys);
    }

    private void behindTheEnd() {
        Subject x = Fixtures.onePlane(3, 1);
        s.due("zeros", 3, () -> x.read(0b01100000));
        for (int bit = 0; bit < 5; bit++) {
            int one = 1 << bit;
            s.due("a bit 1 at " + bit, -4, () -> x.read(0b01100000 + one));
        }
        s.due("a byte of zeros", -4, () -> x.read(0b01100000, 0));
        s.due("a byte with a bit 1", -4, () -> x.read(0b01100000, 1));
        s.due("two bytes", -4, () -> x.read(0b01100000, 0, 0));
        Subject whole = Fixtures.onePlane(1, 4);
        s.due("a whole byte: no bit is behind it", 4, () -> whole.read(36));
        s.due("a byte of zeros behind it", -4, () -> whole.read(36, 0));
        s.due("a byte with its highest bit", -4, () -> whole.read(36, 128));
        Subject seven = Fixtures.onePlace(4);
        s.due("7 bits: a 0 behind them", 1, () -> seven.read(0));
        s.due("7 bits: a 1 behind them", -4, () -> seven.read(1));
        Subject nine = Fixtures.onePlace(64);
        s.due("9 bits: seven zeros behind them", 1, () -> nine.read(6, 0));
        s.due("9 bits: the first behind them", -4, () -> nine.read(6, 64));
        s.due("9 bits: the last behind them", -4, () -> nine.read(6, 1));
        s.due("no bits at all, behind the run", -4, () -> Fixtures.onePlace(1).read(0b00010000));
        s.due("nothing behind the run", 1, () -> Fixtures.onePlace(1).read(0));
    }

    private void greyBeyond() {
        // The bits of 1, 2, 3 of two planes, one place.
        String[] bits = {"010", "001 000", "000 00 00", "000 01"};
        for (int many = 3; many <= 4; many++) {
            for (int grey = 0; grey < 4; grey++) {
                Subject x = Fixtures.onePlace(many);
                String asked = bits[grey];
                s.due("grey " + grey + " of " + many, grey < many ? 1 : -5, () -> x.readBits(asked));
                s.due("then it is", grey < many ? grey : 0, () -> x.greyAt(0, 0));
            }
        }
        for (int many : new int[] {33, 34, 50, 62, 63, 64}) {
            for (int grey : new int[] {many - 2, many - 1, many, many + 1}) {
                if (grey < 64) {
                    s.due("grey " + grey + " of " + many, grey < many ? 1 : -5, () -> readOf(many, grey));
                }
            }
        }
        Subject last = Fixtures.sized(32, 32);
        last.patterns(1, 1, 64);
        last.grid(16, 16, 0, 0, 256, 0);
        last.grey(15, 15, 63);
        last.encode();
        last.pass();
        last.patterns(1, 1, 63);
        last.grey(0, 0, 5);
        s.due("the last place alone", -5, last::decode);
        s.due("no grey is changed", "5 0", () -> last.greyAt(0, 0) + " " + last.greyAt(15, 15));
        s.due("all runs are read", 2, () -> last.told(11));
    }

    /** Reads a grey that was written with 64 patterns, when there are fewer. */
    private static int readOf(int many, int grey) {
        Subject x = Fixtures.onePlace(64);
        x.grey(0, 0, grey);
        x.encode();
        x.pass();
        x.patterns(1, 1, many);
        return x.decode();
    }

    private void theyAreTheGreys() {
        Subject x = Fixtures.onePlane(2, 2);
        x.setGreys(1, 1, 1, 1);
        s.due("a run of 4", 4, () -> x.readBits("1000"));
        s.due("all are 0", "0 0 0 0", x::greys);
        s.due("runs 1, 2", 4, () -> x.readBits("001 010"));
        s.due("the second is 1", "0 1 0 0", x::greys);
        Subject skipped = Fixtures.sized(2, 1);
        skipped.ordered(1);
        skipped.grid(4, 1, -256, 0, 256, 0);
        skipped.setGreys(1, 0, 1, 1);
        skipped.way(2, 1);
        s.due("runs 1, 0", 2, () -> skipped.readBits("001 000"));
        s.due("those skipped are 0", "0 0 1 0", skipped::greys);
        skipped.grid(2, 1, 512, 0, 256, 0);
        skipped.setGreys(1, 1);
        s.due("all skipped", 0, () -> skipped.readBits("000"));
        s.due("all are 0", "0 0", skipped::greys);
        skipped.setGreys(1, 1);
        s.due("refused", -3, () -> skipped.readBits("001"));
        s.due("those skipped stay as well", "1 1", skipped::greys);
        Subject none = Fixtures.onePlane(16, 16);
        none.grey(15, 15, 1);
        none.read(255, 240, 128, 0);
        s.due("up to the last place", 0, () -> none.greyAt(15, 15));
    }

    private void howManyPlaces() {
        Subject x = Fixtures.sized(3, 3);
        x.ordered(1);
        int[][] grids = {{1, 1, 1}, {2, 1, 2}, {3, 3, 9}, {4, 4, 16}, {16, 16, 256}};
        for (int[] g : grids) {
            x.grid(g[0], g[1], 0, 0, 256, 0);
            x.encode();
            x.pass();
            s.due("none is skipped of " + g[2], g[2], x::decode);
        }
        x.way(2, 1);
        s.due("nine of 256", 9, () -> x.readBits("110 01"));
        x.grid(16, 16, 512, 512, 256, 0);
        s.due("one of 256", 1, () -> x.readBits("001"));
        x.grid(16, 16, 768, 0, 256, 0);
        s.due("none of 256", 0, () -> x.readBits("000"));
        x.patterns(1, 1, 1);
        s.due("none, and no planes", 0, () -> x.readBits("000"));
        x.way(2, 0);
        s.due("all, and no planes", 256, () -> x.readBits("000"));
    }

    private void lessTheNumber() {
        Subject x = Fixtures.onePlace(3);
        s.due("1", -2, x::decode);
        s.due("2", -3, () -> x.readBits("011"));
        s.due("3", -4, () -> x.read(64, 0));
        s.due("4", -5, () -> x.readBits("000 01"));
        s.due("none", 1, () -> x.read(64));
    }

    private void noBytesThen() {
        int[][] all = {{64}, {255}, {96}, {64, 0}, {8}};
        int[] answers = {1, -2, -3, -4, -5};
        for (int n = 0; n < all.length; n++) {
            Subject x = Fixtures.onePlace(3);
            int[] bytes = all[n];
            s.due("read", answers[n], () -> x.read(bytes));
            s.due("none has come", 0, () -> x.told(9));
            s.due("no bits", -2, x::decode);
            s.due("the next is the first", 1, () -> x.feed(64));
            s.due("it is read alone", 1, x::decode);
        }
        Subject full = Fixtures.came(3000);
        full.decode();
        s.due("none of 3000", 0, () -> full.told(9));
        s.due("room for one", 1, () -> full.feed(0));
    }

    private void whenLastEnded() {
        Subject x = Fixtures.onePlane(2, 1);
        x.setGreys(0, 1);
        x.encode();
        s.due("written", "0:0*2", x::contexts);
        x.setGreys(1, 1);
        x.grid(1, 1, 0, 0, 256, 0);
        x.patterns(1, 1, 1);
        x.way(2, 1);
        x.feed(255);
        x.shade();
        x.compose();
        s.due("nothing else changes it", "0:0*2", x::contexts);
        x.ordered(1);
        s.due("but the next one, refused", -2, x::decode);
        s.due("no bit was told then", "", x::contexts);
        s.due("read", "2, 1, 0:-3*2", () -> outcome(Fixtures.onePlane(2, 1), "010"));
        s.due("refused by 1 behind one bit", "-2, 1, 0:1*1", () -> outcome(Fixtures.onePlane(2, 1), "000 11111"));
        s.due("refused by 1 at the end", "-2, 1, 0:0*2", () -> outcome(Fixtures.onePlane(2, 1), "001 11111"));
        s.due("refused by 2 behind one bit", "-3, 2, 0:1*1", () -> outcome(Fixtures.onePlane(2, 1), "000 100"));
        s.due("refused by 3", "-4, 1, 0:-3*2", () -> outcome(Fixtures.onePlane(2, 1), "010 00001"));
        s.due("refused by 4", "-5, 2, 1:-2*1", () -> outcome(Fixtures.onePlace(3), "000 01"));
        Subject again = Fixtures.onePlane(2, 1);
        again.encode();
        again.readBits("000 11111");
        s.due("nothing of one before it", "0:1*1", again::contexts);
        again.encode();
        s.due("nor of one that was refused", "0:-3*2", again::contexts);
    }

    private void whatOf() {
        Subject x = Fixtures.onePlane(1, 16);
        for (int j = 0; j < 9; j++) {
            x.grey(0, j, 1);
        }
        x.encode();
        // 1 in context 0; eight ones and a 0 in context 4; then six zeros in context 0, from 1 on.
        s.due("context 4, its state", 5, () -> x.context(4, 0));
        s.due("context 4, its bits", 9, () -> x.context(4, 1));
        s.due("context 0, its state", -6, () -> x.context(0, 0));
        s.due("context 0, its bits", 7, () -> x.context(0, 1));
        s.due("another one, its state", -1, () -> x.context(1, 0));
        s.due("another one, its bits", 0, () -> x.context(1, 1));
        Subject planes = Fixtures.sized(8, 8);
        planes.patterns(1, 1, 64);
        planes.grid(16, 16, 0, 0, 256, 0);
        planes.encode();
        s.due("the last plane's 256 alone", "0:-8*256", planes::contexts);
        planes.grid(16, 15, 0, 0, 256, 0);
        planes.encode();
        s.due("the last plane's 240", "0:-8*240", planes::contexts);
        s.due("refused in the second plane, at its second bit", -2,
                () -> planes.readBits(Bits.run(240, 2) + "111"));
        s.due("one bit of that plane", "0:1*1", planes::contexts);
    }

    private void beforeAndWithNoPlanes() {
        s.due("before", "", () -> Fixtures.onePlane(1, 3).contexts());
        Subject x = Fixtures.onePlane(1, 3);
        x.encode();
        s.due("with one plane", "0:-4*3", x::contexts);
        x.patterns(1, 1, 1);
        s.due("until the next one", "0:-4*3", x::contexts);
        x.encode();
        s.due("written with no planes", "", x::contexts);
        Subject read = Fixtures.onePlane(1, 3);
        read.encode();
        read.patterns(1, 1, 1);
        s.due("read with no planes", 3, () -> read.read(0));
        s.due("then", "", read::contexts);
        Subject refused = Fixtures.onePlane(1, 3);
        refused.encode();
        refused.patterns(1, 1, 1);
        s.due("refused with no planes", -2, refused::decode);
        s.due("then as well", "", refused::contexts);
    }

    private void whichContext() {
        for (int c : new int[] {-2, -1, 64, 65, 128, LEAST, GREATEST}) {
            s.refused("state of context " + c, Sentences.INDEX, b -> b.context(c, 0));
            s.refused("bits of context " + c, Sentences.INDEX, b -> b.context(c, 1));
            s.refused("the context comes first: " + c, Sentences.INDEX, b -> b.context(c, 2));
        }
        // All dark in two planes: the place (2, 1) has all six bits, each of the others but one or more.
        Subject x = Fixtures.sized(8, 8);
        x.patterns(1, 1, 4);
        x.grid(4, 2, 0, 0, 256, 0);
        x.setGreys(2, 2, 2, 2, 2, 2, 2, 2);
        x.encode();
        s.due("63 is the last one", "1 1", () -> x.context(63, 0) + " " + x.context(63, 1));
        s.due("62 is another one", "-1 0", () -> x.context(62, 0) + " " + x.context(62, 1));
        s.due("(i + 1, j - 1) is none of the last column: 61", "1 1", () -> x.context(61, 0) + " " + x.context(61, 1));
        s.due("0 is the first one", "-1 0", () -> x.context(0, 0) + " " + x.context(0, 1));
        int[] contexts = {32, 16, 8, 4, 2};
        String[] pictures = {"1 0", "1 0 0", "1 0/0 0", "1/0", "0 1/0 0"};
        for (int n = 0; n < pictures.length; n++) {
            int c = contexts[n];
            String picture = pictures[n];
            s.due("a single one of the six bits: " + c, "-2 1", () -> of(picture, c));
        }
        Subject above = Fixtures.onePlace(4);
        above.grey(0, 0, 3);
        above.encode();
        s.due("the last of the six bits: 1", "-2 1", () -> above.context(1, 0) + " " + above.context(1, 1));
    }

    /** State and bits of a context behind a picture of one plane, row by row. */
    private static String of(String picture, int c) {
        String[] lines = picture.split("/");
        Subject x = Fixtures.onePlane(lines[0].split(" ").length, lines.length);
        for (int j = 0; j < lines.length; j++) {
            String[] greys = lines[j].split(" ");
            for (int i = 0; i < greys.length; i++) {
                x.grey(i, j, Integer.parseInt(greys[i]));
            }
        }
        x.encode();
        return x.context(c, 0) + " " + x.context(c, 1);
    }

    private void anotherWhat() {
        for (int what : new int[] {-2, -1, 2, 3, LEAST, GREATEST}) {
            s.refused("what " + what, Sentences.ARGUMENT, b -> b.context(0, what));
            s.refused("what " + what + " of the last", Sentences.ARGUMENT, b -> b.context(63, what));
        }
        s.due("what 0", -1, () -> Fixtures.onePlace(1).context(63, 0));
        s.due("what 1", 0, () -> Fixtures.onePlace(1).context(63, 1));
    }
}
