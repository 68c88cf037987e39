import java.util.Random;
import java.util.TreeMap;
import java.util.TreeSet;

/** Long runs of calls, right and wrong ones, each answered as Model answers it. The seeds are fixed. */
public final class RandomRunsTests {
    private static final int RUNS = 2500;
    private static final int CALLS = 512;
    private static final int[] EDGES = {
        Integer.MIN_VALUE, Integer.MIN_VALUE + 1, -65537, -65536, -4097, -4096, -2, -1, 0, 1, 2, 7, 8, 9, 15, 16, 17,
        31, 32, 33, 63, 64, 65, 255, 256, 4096, 4097, 65536, 65537, Integer.MAX_VALUE - 1, Integer.MAX_VALUE,
    };

    private final Check check;
    private final Random random;
    private final TreeMap<String, Integer> seen;
    private final HalftoneRegions real;
    private final Model model;
    private final String title;
    private int calls;

    private RandomRunsTests(Check check, TreeMap<String, Integer> seen, int seed) {
        this.check = check;
        this.seen = seen;
        random = new Random(seed);
        int width = random.nextInt(8) == 0 ? edge() : random.nextInt(34);
        int height = random.nextInt(8) == 0 ? edge() : random.nextInt(34);
        real = new HalftoneRegions(width, height);
        model = new Model(width, height);
        title = "seed " + seed + " ";
    }

    public static void main(String[] args) {
        Check check = new Check("random runs");
        TreeMap<String, Integer> seen = new TreeMap<>();
        for (int seed = 0; seed < RUNS; seed++) {
            RandomRunsTests run = new RandomRunsTests(check, seen, seed);
            if (seed % 5 == 0) {
                run.bigRun();
            } else {
                run.anyRun();
            }
        }
        System.out.println("random runs: what decode() answered, and whether a run of 13 bits was written: " + seen);
        TreeSet<String> want = new TreeSet<>(java.util.List.of("-2", "-3", "-4", "-5", "long", "read"));
        check.due("kinds of answers seen", want, () -> new TreeSet<>(seen.keySet()));
        check.end();
    }

    private int edge() {
        return EDGES[random.nextInt(EDGES.length)];
    }

    /** Mostly a number from 0 on below this bound, now and then an odd one. */
    private int below(int bound) {
        int kind = random.nextInt(40);
        return kind == 0 ? edge() : kind == 1 ? bound : kind == 2 ? -1 : random.nextInt(bound);
    }

    private void same(String what, Check.Call ofModel, Check.Call ofReal) {
        calls++;
        check.due(title + calls + " " + what, Check.answer(ofModel), ofReal);
    }

    /** Few calls that matter, each on a whole picture. */
    private void bigRun() {
        setPatterns();
        setGrid();
        for (int y = 0; y < 32; y++) {
            setRow(y, random.nextInt() & random.nextInt());
        }
        shadeAll();
        scatterGreys(80);
        for (int round = 0; round < 6 && calls < CALLS - 60; round++) {
            setWay();
            encodeAll();
            passAll();
            spoil();
            decodeAll();
            lookAtContexts(12);
            lookAtGreys(6);
            scatterGreys(12);
        }
        composeAll();
        copyPage();
        shadeAll();
        lookAtRest();
    }

    private void anyRun() {
        while (calls < CALLS - 100) {
            anyCall();
        }
        lookAtRest();
    }

    private void anyCall() {
        switch (random.nextInt(24)) {
            case 0 -> setPatterns();
            case 1 -> setGrid();
            case 2 -> scatterGreys(20);
            case 3, 4, 5 -> paint();
            case 6 -> setWay();
            case 7 -> setRow(below(32), random.nextInt());
            case 8 -> copyPage();
            case 9 -> lookAtCounts();
            case 10 -> shadeAll();
            case 11, 12 -> composeAll();
            case 13, 14 -> encodeAll();
            case 15, 16 -> passAll();
            case 17, 18 -> decodeAll();
            case 19 -> feedSome();
            case 20 -> spoil();
            case 21 -> lookAtContexts(6);
            case 22 -> lookAtGreys(6);
            default -> lookAround();
        }
    }

    private void setPatterns() {
        if (random.nextInt(3) == 0) {
            int side = below(8);
            same("ordered(" + side + ")", () -> model.ordered(side), () -> real.ordered(side));
        } else {
            int w = 1 + below(8);
            int h = 1 + below(8);
            int many = 1 + below(random.nextBoolean() ? 64 : 9);
            same("patterns(" + w + ", " + h + ", " + many + ")", () -> model.patterns(w, h, many),
                    () -> real.patterns(w, h, many));
            for (int i = 0; i < 10; i++) {
                paint();
            }
        }
    }

    private void paint() {
        int k = below(model.told(2));
        int x = below(model.told(3));
        int y = below(model.told(4));
        boolean on = random.nextInt(3) != 0;
        same("put(" + k + ", " + x + ", " + y + ", " + on + ")", () -> model.put(k, x, y, on),
                () -> real.put(k, x, y, on));
        same("cell(" + k + ", " + x + ", " + y + ")", () -> model.cell(k, x, y), () -> real.cell(k, x, y));
    }

    private int step() {
        return random.nextInt(12) == 0 ? edge() : random.nextInt(3) == 0 ? 0 : random.nextInt(1600) - 800;
    }

    private void setGrid() {
        int columns = 1 + below(16);
        int rows = 1 + below(16);
        int gx = random.nextInt(20) == 0 ? edge() : random.nextInt(6000) - 2000;
        int gy = random.nextInt(20) == 0 ? edge() : random.nextInt(6000) - 2000;
        int dx = step();
        int dy = step();
        same("grid(" + columns + ", " + rows + ", " + gx + ", " + gy + ", " + dx + ", " + dy + ")",
                () -> model.grid(columns, rows, gx, gy, dx, dy), () -> real.grid(columns, rows, gx, gy, dx, dy));
        lookAround();
    }

    private void lookAround() {
        int i = below(model.columns());
        int j = below(model.rows());
        int axis = below(2);
        same("where(" + i + ", " + j + ", " + axis + ")", () -> model.where(i, j, axis), () -> real.where(i, j, axis));
        same("outside(" + i + ", " + j + ")", () -> model.outside(i, j), () -> real.outside(i, j));
        int what = below(13);
        same("told(" + what + ")", () -> model.told(what), () -> real.told(what));
    }

    private void scatterGreys(int many) {
        for (int n = 0; n < many; n++) {
            int i = below(model.columns());
            int j = below(model.rows());
            int v = below(model.many());
            same("grey(" + i + ", " + j + ", " + v + ")", () -> model.grey(i, j, v), () -> real.grey(i, j, v));
        }
    }

    private void lookAtGreys(int many) {
        for (int n = 0; n < many; n++) {
            int i = below(model.columns());
            int j = below(model.rows());
            same("greyAt(" + i + ", " + j + ")", () -> model.greyAt(i, j), () -> real.greyAt(i, j));
        }
    }

    private void setWay() {
        int what = below(3);
        int v = below(what == 0 ? 5 : 2);
        same("way(" + what + ", " + v + ")", () -> model.way(what, v), () -> real.way(what, v));
    }

    private void setRow(int y, int bits) {
        same("row(" + y + ", " + bits + ")", () -> model.row(y, bits), () -> real.row(y, bits));
    }

    private void copyPage() {
        same("page()", model::page, real::page);
    }

    private void lookAtCounts() {
        int i = below(model.columns());
        int j = below(model.rows());
        same("count(" + i + ", " + j + ")", () -> model.count(i, j), () -> real.count(i, j));
    }

    private void shadeAll() {
        same("shade()", model::shade, real::shade);
    }

    private void composeAll() {
        same("compose()", model::compose, real::compose);
        int x = below(model.told(0));
        int y = below(model.told(1));
        same("at(" + x + ", " + y + ")", () -> model.at(x, y), () -> real.at(x, y));
    }

    private void encodeAll() {
        model.wroteLong = false;
        same("encode()", model::encode, real::encode);
        if (model.wroteLong) {
            seen.merge("long", 1, Integer::sum);
        }
        same("told(11)", () -> model.told(11), () -> real.told(11));
        int i = below(model.told(8));
        same("byteAt(" + i + ")", () -> model.byteAt(i), () -> real.byteAt(i));
    }

    private void passAll() {
        same("pass()", model::pass, real::pass);
    }

    private void feedSome() {
        int b = below(256);
        same("feed(" + b + ")", () -> model.feed(b), () -> real.feed(b));
    }

    /** Makes a reading fail that else would not, in one way or another, or not at all. */
    private void spoil() {
        int kind = random.nextInt(8);
        if (kind == 0) {
            feedSome();
        } else if (kind == 1) {
            decodeAll();
            for (int i = 0; i < Math.min(60, model.told(8)); i++) {
                int b = model.byteAt(i) ^ (random.nextInt(10) == 0 ? 1 << random.nextInt(8) : 0);
                same("feed(" + b + ")", () -> model.feed(b), () -> real.feed(b));
            }
        } else if (kind == 2) {
            int many = Math.max(1, model.many() - 1 - random.nextInt(4));
            int w = model.told(3);
            int h = model.told(4);
            same("patterns(" + w + ", " + h + ", " + many + ")", () -> model.patterns(w, h, many),
                    () -> real.patterns(w, h, many));
        } else if (kind == 3) {
            setGrid();
        } else if (kind == 4) {
            setWay();
        }
    }

    private void decodeAll() {
        String answer = Check.answer(model::decode);
        calls++;
        check.due(title + calls + " decode()", answer, real::decode);
        seen.merge(answer.startsWith("-") ? answer : "read", 1, Integer::sum);
        same("told(9)", () -> model.told(9), () -> real.told(9));
        same("told(11)", () -> model.told(11), () -> real.told(11));
    }

    private void lookAtContexts(int many) {
        for (int n = 0; n < many; n++) {
            int c = random.nextInt(3) == 0 ? 0 : below(64);
            int what = below(2);
            same("context(" + c + ", " + what + ")", () -> model.context(c, what), () -> real.context(c, what));
        }
    }

    private void lookAtRest() {
        for (int n = 0; n < 8; n++) {
            lookAround();
            lookAtCounts();
        }
        if (random.nextInt(2) == 0) {
            calls++;
            model.clear();
            real.clear();
        }
        for (int what = -1; what <= 13; what++) {
            int asked = what;
            same("told(" + asked + ")", () -> model.told(asked), () -> real.told(asked));
        }
        composeAll();
        copyPage();
        lookAtContexts(4);
        encodeAll();
        decodeAll();
    }
}
