import java.util.Random;
import java.util.function.LongSupplier;

/** Runs of 512 calls, each answered by the program and by the model; the seeds are fixed. */
public final class ModelTest {
    private static final int RUNS = 4000;
    /** No object is asked more: what it answered then would be free. */
    private static final int CALLS = 512;
    private static final int[] SPECIAL = {
        Integer.MIN_VALUE, Integer.MIN_VALUE + 1, Integer.MIN_VALUE + 2, -1, 0, 1,
        Integer.MAX_VALUE - 1, Integer.MAX_VALUE
    };

    private final Random random;
    private final int run;
    private final SurrogateTree program = new SurrogateTree();
    private final ModelTree model = new ModelTree();
    private final int spread;
    private final int missingOf100;
    private int calls = 0;

    private ModelTest(int run) {
        this.run = run;
        random = new Random(run);
        spread = 1 + random.nextInt(12);
        missingOf100 = random.nextInt(3) * 20;
    }

    public static void main(String[] args) {
        for (int run = 0; run < RUNS && !Check.failed(); run++) {
            new ModelTest(run).play();
        }
        manyDraws();
        Check.end();
    }

    /** Rows first, then stretches of one change and some questions about what came of it. */
    private void play() {
        int rows = random.nextInt(18);
        for (int i = 0; i < rows; i++) {
            addRow();
        }
        int questions = 5 + random.nextInt(40);
        while (calls < CALLS) {
            change();
            for (int i = 0; i < questions; i++) {
                ask();
            }
        }
    }

    private int value() {
        if (random.nextInt(100) < missingOf100) {
            return Integer.MIN_VALUE;
        }
        if (random.nextInt(40) == 0) {
            return SPECIAL[random.nextInt(SPECIAL.length)];
        }
        return random.nextInt(spread) - spread / 2;
    }

    private void addRow() {
        int a = value();
        int b = value();
        int c = value();
        int inClass = random.nextInt(30) == 0 ? random.nextInt() : random.nextInt(4);
        same("addRow", () -> program.addRow(a, b, c, inClass), () -> model.addRow(a, b, c, inClass));
    }

    private void change() {
        int choice = random.nextInt(100);
        if (choice < 2) {
            addRow();
        } else if (choice < 8) {
            int criterion = random.nextInt(5) - 1;
            int depth = random.nextInt(7) - 1;
            int leaf = random.nextInt(4) == 0 ? random.nextInt(11) - 1 : 1 + random.nextInt(2);
            same("begin", () -> program.begin(criterion, depth, leaf) ? 1 : 0,
                () -> model.begin(criterion, depth, leaf) ? 1 : 0);
        } else if (choice < 14) {
            long seed = random.nextLong();
            same("bag", () -> program.bag(seed), () -> model.bag(seed));
        } else if (choice < 17) {
            same("even", () -> even(program), () -> even(model));
        } else if (choice < 40) {
            int n = random.nextInt(6) - 1;
            same("grow", () -> program.grow(n), () -> model.grow(n));
        } else if (choice < 65) {
            growWhole();
        } else if (choice < 85) {
            int p = random.nextInt(10) == 0 ? random.nextInt(1100) - 50 : random.nextInt(9);
            int q = random.nextInt(10) == 0 ? random.nextInt(1100) - 50 : random.nextInt(7);
            same("cut", () -> program.cut(p, q), () -> model.cut(p, q));
        } else {
            same("tally", program::tally, model::tally);
        }
    }

    private static long even(SurrogateTree x) {
        x.even();
        return 0;
    }

    private static long even(ModelTree x) {
        x.even();
        return 0;
    }

    private void growWhole() {
        for (int i = 0; i < 11; i++) {
            same("grow", () -> program.grow(3), () -> model.grow(3));
        }
    }

    private void ask() {
        int choice = random.nextInt(100);
        if (choice < 60) {
            askOfANode(choice % 10);
        } else if (choice < 75) {
            int a = value();
            int b = value();
            int c = value();
            same("reach", () -> program.reach(a, b, c), () -> model.reach(a, b, c));
        } else if (choice < 85) {
            int row = random.nextInt(18) - 1;
            int c = random.nextInt(6) - 1;
            same("votes", () -> program.votes(row, c), () -> model.votes(row, c));
        } else if (choice < 90) {
            int row = random.nextInt(18) - 1;
            same("weight", () -> program.weight(row), () -> model.weight(row));
        } else if (choice < 97) {
            same("wrong", program::wrong, model::wrong);
        } else {
            int k = random.nextInt(8) - 1;
            same("breakAt", () -> program.breakAt(k), () -> model.breakAt(k));
        }
    }

    /** Nodes that lie high are there more often, and are asked about more often. */
    private void askOfANode(int choice) {
        int k = random.nextInt(2 + random.nextInt(33)) - 1 + random.nextInt(2);
        int i = random.nextInt(5) - 1;
        switch (choice) {
            case 0 -> same("kind", () -> program.kind(k), () -> model.kind(k));
            case 1 -> same("gain", () -> program.gain(k), () -> model.gain(k));
            case 2 -> same("rowsOf", () -> program.rowsOf(k), () -> model.rowsOf(k));
            case 3 -> same("classOf", () -> program.classOf(k), () -> model.classOf(k));
            case 4 -> same("error", () -> program.error(k), () -> model.error(k));
            case 5, 6, 7 -> same("rule", () -> program.rule(k, i), () -> model.rule(k, i));
            default -> same("threshold", () -> program.threshold(k, i), () -> model.threshold(k, i));
        }
    }

    /** Makes a call on both, unless the run has made all its calls. */
    private void same(String call, LongSupplier got, LongSupplier due) {
        if (calls < CALLS) {
            calls++;
            long answer = got.getAsLong();
            long wanted = due.getAsLong();
            Check.same(answer == wanted ? call : "run " + run + ", call " + calls + ": " + call, answer, wanted);
        }
    }

    /** Eight throws that all miss are rare: with eleven rows one draw in ten thousand. */
    private static void manyDraws() {
        for (int n = 1; n <= 16; n++) {
            for (int i = 0; i < 2000; i++) {
                long seed = i * 0x9E3779B97F4A7C15L;
                SurrogateTree program = new SurrogateTree();
                ModelTree model = new ModelTree();
                for (int row = 0; row < n; row++) {
                    program.addRow(row, row, row, 0);
                    model.addRow(row, row, row, 0);
                }
                Check.same("bag(" + seed + ") of " + n, program.bag(seed), model.bag(seed));
                for (int row = 0; row < n; row++) {
                    Check.same("weight after bag(" + seed + ") of " + n, program.weight(row), model.weight(row));
                }
            }
        }
    }
}
