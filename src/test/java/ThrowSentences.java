/** The sentences of Terms that say which exception is thrown where, and what it leaves as it was. */
final class ThrowSentences {
    private final Sentences s;

    ThrowSentences(Sentences s) {
        this.s = s;
    }

    void test() {
        s.term("4, 5, 7 to 10, 12, 14, 17, 19 and 23", "IndexOutOfBounds: there is no such sample, pattern, cell, place"
                + " or byte.", this::index);
        s.term("2, 3, 6, 7, 9, 11, 20 and 23", "IllegalArgument: another number is none that is told.", this::argument);
        s.term("20 and 21", "UnsupportedOperation: there is no room.", this::unsupported);
        s.term("7, 9, 20 and 23", "Of several that a call names, the first one.", this::firstOfSeveral);
        s.term("1 to 25", "A call that throws changes nothing.", this::changesNothing);
    }

    private void index() {
        refused(Sentences.INDEX, "no such sample", x -> x.at(6, 4), x -> x.at(5, 5), x -> x.at(-1, 4),
                x -> x.at(5, -1), x -> x.row(5, 0), x -> x.row(-1, 0));
        refused(Sentences.INDEX, "no such pattern", x -> x.cell(5, 1, 1), x -> x.cell(-1, 1, 1),
                x -> x.put(5, 1, 1, true), x -> x.put(-1, 1, 1, true));
        refused(Sentences.INDEX, "no such cell", x -> x.cell(4, 2, 1), x -> x.cell(4, 1, 2), x -> x.cell(4, -1, 1),
                x -> x.cell(4, 1, -1), x -> x.put(4, 2, 1, false), x -> x.put(4, 1, 2, false),
                x -> x.put(4, -1, 1, false), x -> x.put(4, 1, -1, false));
        int[][] places = {{3, 2}, {2, 3}, {-1, 2}, {2, -1}};
        for (int[] p : places) {
            refused(Sentences.INDEX, "no such place", x -> x.where(p[0], p[1], 0), x -> x.outside(p[0], p[1]),
                    x -> x.grey(p[0], p[1], 0), x -> x.greyAt(p[0], p[1]), x -> x.count(p[0], p[1]));
        }
        refused(Sentences.INDEX, "no such byte", x -> x.byteAt(-1), x -> x.byteAt(x.told(8)));
        refused(Sentences.INDEX, "no such context", x -> x.context(-1, 0), x -> x.context(64, 0));
        Subject x = Fixtures.busy();
        Check.Call[] right = {
            () -> x.at(5, 4), () -> x.at(0, 0), () -> x.row(4, 0), () -> x.row(0, 0), () -> x.cell(4, 1, 1),
            () -> x.cell(0, 0, 0), () -> x.put(4, 1, 1, true), () -> x.put(0, 0, 0, true), () -> x.where(2, 2, 1),
            () -> x.where(0, 0, 0), () -> x.outside(2, 2), () -> x.outside(0, 0), () -> x.grey(2, 2, 0),
            () -> x.grey(0, 0, 0), () -> x.greyAt(2, 2), () -> x.greyAt(0, 0), () -> x.count(2, 2),
            () -> x.count(0, 0), () -> x.byteAt(x.told(8) - 1), () -> x.byteAt(0), () -> x.context(63, 0),
            () -> x.context(0, 0),
        };
        taken("the first and the last one", right);
    }

    private void argument() {
        refused(Sentences.ARGUMENT, "no such number", x -> x.patterns(9, 1, 1), x -> x.patterns(1, 9, 1),
                x -> x.patterns(1, 1, 65), x -> x.patterns(0, 1, 1), x -> x.patterns(1, 0, 1), x -> x.patterns(1, 1, 0),
                x -> x.ordered(0), x -> x.ordered(8), x -> x.grid(17, 1, 0, 0, 1, 0), x -> x.grid(1, 17, 0, 0, 1, 0),
                x -> x.grid(0, 1, 0, 0, 1, 0), x -> x.grid(1, 0, 0, 0, 1, 0), x -> x.grid(1, 1, 0, 0, 0, 0),
                x -> x.where(2, 2, 2), x -> x.where(2, 2, -1), x -> x.grey(2, 2, 5), x -> x.grey(2, 2, -1),
                x -> x.way(3, 0), x -> x.way(-1, 0), x -> x.way(0, 5), x -> x.way(1, 2), x -> x.way(2, 2),
                x -> x.feed(256), x -> x.feed(-1), x -> x.context(63, 2), x -> x.context(63, -1));
        Subject x = Fixtures.busy();
        taken("the last numbers that are told", () -> x.where(2, 2, 1), () -> x.grey(2, 2, 4), () -> x.way(0, 4),
                () -> x.way(1, 1), () -> x.way(2, 1), () -> x.feed(255), () -> x.context(63, 1),
                () -> x.grid(16, 16, 65536, 65536, 4096, 4096), () -> x.ordered(7), () -> x.patterns(8, 8, 64));
        taken("the first numbers that are told", () -> x.where(0, 0, 0), () -> x.grey(0, 0, 0), () -> x.way(0, 0),
                () -> x.way(1, 0), () -> x.way(2, 0), () -> x.feed(0), () -> x.context(0, 0),
                () -> x.grid(1, 1, -65536, -65536, -4096, -4096), () -> x.ordered(1), () -> x.patterns(1, 1, 1));
        s.due("told() and row() know no wrong number of these", "-1 6", () -> {
            Subject y = Fixtures.sized(6, 5);
            return y.told(12) + " " + y.row(0, -1);
        });
    }

    private void unsupported() {
        Subject x = Fixtures.came(2999);
        s.due("room for one", 3000, () -> x.feed(0));
        s.due("none for one more", "throws.UnsupportedOperationException", () -> x.feed(0));
        s.due("nor for those made", "throws.UnsupportedOperationException", x::pass);
        Subject y = Fixtures.came(2999);
        s.due("room for the one made", 3000, y::pass);
        s.due("none for it again", "throws.UnsupportedOperationException", y::pass);
    }

    private void firstOfSeveral() {
        int[][] places = {{3, 2}, {2, 3}, {-1, 2}, {2, -1}};
        for (int[] p : places) {
            refused(Sentences.INDEX, "a place, then a number", x -> x.where(p[0], p[1], 2),
                    x -> x.where(p[0], p[1], -1), x -> x.grey(p[0], p[1], 5), x -> x.grey(p[0], p[1], -1));
        }
        refused(Sentences.INDEX, "a context, then a number", x -> x.context(64, 2), x -> x.context(-1, -1));
        Subject full = Fixtures.came(3000);
        s.due("a byte, then room: 256", "throws.IllegalArgumentException", () -> full.feed(256));
        s.due("a byte, then room: -1", "throws.IllegalArgumentException", () -> full.feed(-1));
        s.due("a byte, but no room: 255", "throws.UnsupportedOperationException", () -> full.feed(255));
    }

    private void changesNothing() {
        // Each of these would show: a cell, a grey or a row beside the one that is none, or a part of what was asked.
        refused(Sentences.ARGUMENT, "the last number is wrong", x -> x.patterns(2, 2, 65),
                x -> x.grid(3, 3, 0, 0, 256, 4097), x -> x.grid(3, 3, 512, 512, 0, 0), x -> x.grey(1, 1, 5),
                x -> x.way(0, 5), x -> x.way(1, -1), x -> x.way(2, 2));
        refused(Sentences.INDEX, "one beside the last", x -> x.put(0, 2, 0, true), x -> x.put(0, 0, 2, true),
                x -> x.put(5, 0, 0, true), x -> x.grey(3, 0, 1), x -> x.grey(0, 3, 1), x -> x.row(5, 63));
        refused(Sentences.INDEX, "one before the first", x -> x.put(1, -1, 1, true), x -> x.put(1, 1, -1, true),
                x -> x.put(-1, 1, 1, true), x -> x.grey(-1, 1, 1), x -> x.grey(1, -1, 1), x -> x.row(-1, 63));
        Subject later = Fixtures.sized(8, 8);
        Check.answer(() -> later.put(1, 0, 0, true));
        Check.answer(() -> later.put(0, 1, 0, true));
        Check.answer(() -> later.put(0, 0, 1, true));
        Check.answer(() -> later.grey(1, 0, 0));
        Check.answer(() -> later.row(8, -1));
        Check.answer(() -> later.feed(256));
        s.due("nothing of these is there later", "0 0 -2", () -> {
            later.patterns(2, 2, 2);
            later.grey(0, 0, 1);
            return later.told(10) + " " + later.compose() + " " + later.decode();
        });
        Subject last = Fixtures.busy();
        Check.answer(() -> last.byteAt(last.told(8)));
        s.due("nor is anything after many of them", Fixtures.busy().everything(), () -> {
            for (int n = 0; n < 40; n++) {
                Check.answer(() -> last.feed(256));
            }
            return last.everything();
        });
    }

    private void refused(String exception, String what, Sentences.Action... actions) {
        for (int n = 0; n < actions.length; n++) {
            s.refused(what + ", " + n, exception, actions[n]);
        }
    }

    private void taken(String what, Check.Call... calls) {
        for (int n = 0; n < calls.length; n++) {
            Check.Call call = calls[n];
            s.due(what + ", " + n, false, () -> Check.answer(call).startsWith("throws"));
        }
    }
}
