/** The program that README.md shows; ReadmeTests looks that it stands there and prints what README.md says. */
public final class Example {
    public static void main(String[] args) {
        HalftoneRegions x = new HalftoneRegions(12, 8);
        x.ordered(4);                            // 17 patterns of 4 by 4, from light to dark
        x.grid(3, 2, 0, 0, 1024, 0);             // 3 by 2 places, 4 samples apart (1024 by 256)
        for (int y = 0; y < 8; y++) {
            x.row(y, 0xFFF << y);                // the page, row by row: bit x is column x
        }
        System.out.println(x.shade() + " greys were others, " + x.compose() + " samples are dark:");
        for (int y = 0; y < x.told(1); y++) {
            for (int column = 0; column < x.told(0); column++) {
                System.out.print(x.at(column, y) ? '#' : '.');
            }
            System.out.println();
        }
        System.out.println(x.encode() + " bytes made, the first one is " + x.byteAt(0));
        System.out.println(x.pass() + " bytes came, " + x.decode() + " places read");
        System.out.println("with no bytes: " + x.decode());
        try {
            x.greyAt(3, 0);
        } catch (IndexOutOfBoundsException e) {
            System.out.println("there is no column 3");
        }
    }
}
