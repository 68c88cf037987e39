/** Objects that several tests begin with. */
final class Fixtures {
    private Fixtures() {
    }

    static Subject sized(int width, int height) {
        return new Subject(width, height);
    }

    /** 2 patterns of 1 by 1, the second one dark, and so many places a sample apart: a bit for each of them. */
    static Subject onePlane(int columns, int rows) {
        Subject x = sized(32, 32);
        x.ordered(1);
        x.grid(columns, rows, 0, 0, 256, 0);
        return x;
    }

    /** One place, and so many patterns of 1 by 1. */
    static Subject onePlace(int patterns) {
        Subject x = sized(8, 8);
        x.patterns(1, 1, patterns);
        return x;
    }

    /** Nothing is as at first; the bytes that came would be read, and give greys that are not those at hand. */
    static Subject busy() {
        Subject x = sized(6, 5);
        x.ordered(2);
        x.put(2, 1, 0, true);
        x.grid(3, 3, -100, 200, 600, -90);
        for (int y = 0; y < 5; y++) {
            x.row(y, 0b101101 * (y + 1));
        }
        x.shade();
        x.way(0, 2);
        x.way(1, 1);
        x.way(2, 1);
        x.compose();
        x.encode();
        x.pass();
        x.grey(1, 1, 4);
        x.grey(0, 2, 3);
        x.row(4, 0b110010);
        return x;
    }

    /** A picture of greys that becomes 125 bytes, on a small page. */
    static Subject rich() {
        Subject x = sized(6, 5);
        x.ordered(6);
        x.grid(16, 16, 0, 0, 70, 31);
        for (int y = 0; y < 5; y++) {
            x.row(y, 0x9E3779B9 * (y + 1));
        }
        x.shade();
        if (x.encode() != 125) {
            throw new AssertionError("the rich picture becomes " + x.told(8) + " bytes");
        }
        return x;
    }

    /** An object to which this many bytes came, 125 at a time at first; those made last are a single one. */
    static Subject came(int many) {
        Subject x = rich();
        for (int n = 0; n < many / 125; n++) {
            x.pass();
        }
        x.ordered(1);
        x.grid(16, 16, 0, 0, 256, 0);
        x.encode();
        for (int n = 0; n < many % 125 / 4; n++) {
            x.pass();
        }
        x.patterns(1, 1, 1);
        x.encode();
        for (int n = 0; n < many % 125 % 4; n++) {
            x.pass();
        }
        return x;
    }
}
