/** Bits as text, such as "000 01", and the bytes in which they stand. */
final class Bits {
    private Bits() {
    }

    static int[] bytes(String bits) {
        String all = bits.replace(" ", "");
        int[] bytes = new int[(all.length() + 7) / 8];
        for (int n = 0; n < all.length(); n++) {
            if (all.charAt(n) == '1') {
                bytes[n / 8] += 128 >> n % 8;
            }
        }
        return bytes;
    }

    /** The same bytes as Subject.made() tells them. */
    static String told(String bits) {
        StringBuilder all = new StringBuilder();
        for (int b : bytes(bits)) {
            all.append(all.length() == 0 ? "" : " ").append(b);
        }
        return all.toString();
    }

    /** A run that comes with this k. */
    static String run(int r, int k) {
        int ones = r / (1 << k);
        return ones < 12 ? "1".repeat(ones) + "0" + lowest(r, k) : "1".repeat(12) + lowest(r, 13);
    }

    /** Runs that come with these numbers k, a digit for each. */
    static String runs(int[] runs, String ks) {
        String digits = ks.replace(" ", "");
        if (digits.length() != runs.length) {
            throw new AssertionError(runs.length + " runs with " + digits.length() + " numbers k");
        }
        StringBuilder all = new StringBuilder();
        for (int n = 0; n < runs.length; n++) {
            all.append(run(runs[n], digits.charAt(n) - '0')).append(' ');
        }
        return all.toString();
    }

    private static String lowest(int number, int many) {
        StringBuilder all = new StringBuilder();
        for (int bit = many - 1; bit >= 0; bit--) {
            all.append(number >> bit & 1);
        }
        return all.toString();
    }
}
