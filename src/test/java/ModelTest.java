import java.util.Random;

/** Long runs of calls, each answered by the program and by the model; the seeds are fixed. */
public final class ModelTest {
    private static final int RUNS = 1500;
    private static final int CALLS = 60;
    private static final int[] SPECIAL = {
        Integer.MIN_VALUE, Integer.MIN_VALUE + 1, Integer.MIN_VALUE + 2, -1, 0, 1,
        Integer.MAX_VALUE - 1, Integer.MAX_VALUE
    };

    private final Random random;
    private final int run;
    private final SurrogateTree program = new SurrogateTree();
    private final ModelTree model = new ModelTree();
    private final int spread;
    private final int missingOf100;

    private ModelTest(int run) {
        this.run = run;
        random = new Random(run);
        spread = 1 + random.nextInt(12);
        missingOf100 = random.nextInt(3) * 20;
    }

    public static void main(String[] args) {
        for (int run = 0; run < RUNS && !Check.failed(); run++) {
            new ModelTest(run).play();
        }
        manyDraws();
        Check.end();
    }

    private void play() {
        int rows = random.nextInt(18);
        for (int i = 0; i < rows; i++) {
            addRow();
        }
        for (int i = 0; i < CALLS && !Check.failed(); i++) {
            change();
            compare();
        }
    }

    private int value() {
        if (random.nextInt(100) < missingOf100) {
            return Integer.MIN_VALUE;
        }
        if (random.nextInt(40) == 0) {
            return SPECIAL[random.nextInt(SPECIAL.length)];
        }
        return random.nextInt(spread) - spread / 2;
    }

    private void addRow() {
        int a = value();
        int b = value();
        int c = value();
        int inClass = random.nextInt(30) == 0 ? random.nextInt() : random.nextInt(4);
        same("addRow", program.addRow(a, b, c, inClass), model.addRow(a, b, c, inClass));
    }

    private void change() {
        int choice = random.nextInt(100);
        if (choice < 2) {
            addRow();
        } else if (choice < 8) {
            int criterion = random.nextInt(5) - 1;
            int depth = random.nextInt(7) - 1;
            int leaf = random.nextInt(4) == 0 ? random.nextInt(11) - 1 : 1 + random.nextInt(2);
            same("begin", program.begin(criterion, depth, leaf) ? 1 : 0, model.begin(criterion, depth, leaf) ? 1 : 0);
        } else if (choice < 14) {
            long seed = random.nextLong();
            same("bag", program.bag(seed), model.bag(seed));
        } else if (choice < 17) {
            program.even();
            model.even();
        } else if (choice < 40) {
            int n = random.nextInt(6) - 1;
            same("grow", program.grow(n), model.grow(n));
        } else if (choice < 65) {
            growWhole();
        } else if (choice < 85) {
            int p = random.nextInt(10) == 0 ? random.nextInt(1100) - 50 : random.nextInt(9);
            int q = random.nextInt(10) == 0 ? random.nextInt(1100) - 50 : random.nextInt(7);
            same("cut", program.cut(p, q), model.cut(p, q));
        } else {
            same("tally", program.tally(), model.tally());
        }
    }

    private void growWhole() {
        for (int i = 0; i < 12; i++) {
            same("grow", program.grow(3), model.grow(3));
        }
    }

    private void compare() {
        for (int k = -1; k <= 33; k++) {
            same("kind", program.kind(k), model.kind(k));
            same("gain", program.gain(k), model.gain(k));
            same("rowsOf", program.rowsOf(k), model.rowsOf(k));
            same("classOf", program.classOf(k), model.classOf(k));
            same("error", program.error(k), model.error(k));
            for (int i = -1; i <= 3; i++) {
                same("rule", program.rule(k, i), model.rule(k, i));
                same("threshold", program.threshold(k, i), model.threshold(k, i));
            }
        }
        for (int i = 0; i < 5; i++) {
            int a = value();
            int b = value();
            int c = value();
            same("reach", program.reach(a, b, c), model.reach(a, b, c));
        }
        for (int row = -1; row <= 16; row++) {
            same("weight", program.weight(row), model.weight(row));
            for (int c = -1; c <= 4; c++) {
                same("votes", program.votes(row, c), model.votes(row, c));
            }
        }
        same("wrong", program.wrong(), model.wrong());
        if (random.nextInt(10) == 0) {
            for (int k = -1; k <= 5; k++) {
                same("breakAt", program.breakAt(k), model.breakAt(k));
            }
        }
    }

    private void same(String call, long got, long due) {
        Check.same(got == due ? call : "run " + run + ": " + call, got, due);
    }

    /** Eight throws that all miss are rare: with eleven rows one draw in ten thousand. */
    private static void manyDraws() {
        for (int n = 1; n <= 16; n++) {
            SurrogateTree program = new SurrogateTree();
            ModelTree model = new ModelTree();
            for (int i = 0; i < n; i++) {
                program.addRow(i, i, i, 0);
                model.addRow(i, i, i, 0);
            }
            for (int i = 0; i < 2000; i++) {
                long seed = i * 0x9E3779B97F4A7C15L;
                Check.same("bag(" + seed + ") of " + n, program.bag(seed), model.bag(seed));
                for (int row = 0; row < n; row++) {
                    Check.same("weight after bag(" + seed + ") of " + n, program.weight(row), model.weight(row));
                }
            }
        }
    }
}
