/** Promise 3: begin. */
public final class BeginTest {
    public static void main(String[] args) {
        edgesAreTaken();
        wrongSettingsAreRefused();
        refusedSettingsChangeNothing();
        weightsAndVotesStay();
        settingsWork();
        Check.end();
    }

    private static void edgesAreTaken() {
        SurrogateTree x = Trees.line(0, 1);
        for (int criterion = 0; criterion <= 2; criterion++) {
            for (int depth = 0; depth <= 4; depth++) {
                for (int leaf = 1; leaf <= 8; leaf++) {
                    x.grow(1);
                    Check.same("begin", x.begin(criterion, depth, leaf), true);
                    Check.same("kind(1) after begin", x.kind(1), 0);
                    Check.same("kind(2) after begin", x.kind(2), -1);
                }
            }
        }
    }

    private static void wrongSettingsAreRefused() {
        SurrogateTree x = new SurrogateTree();
        int low = Integer.MIN_VALUE;
        int high = Integer.MAX_VALUE;
        int[][] wrong = {
            {-1, 0, 1}, {3, 0, 1}, {low, 0, 1}, {high, 0, 1}, {0, -1, 1}, {0, 5, 1}, {0, low, 1},
            {0, high, 1}, {0, 0, 0}, {0, 0, 9}, {0, 0, -1}, {0, 0, low}, {0, 0, high}
        };
        for (int[] w : wrong) {
            Check.same("begin(" + w[0] + ", " + w[1] + ", " + w[2] + ")", x.begin(w[0], w[1], w[2]), false);
        }
    }

    private static void refusedSettingsChangeNothing() {
        SurrogateTree x = Trees.line(0, 0, 1);
        x.grow(2);
        x.begin(1, 0, 9);
        x.begin(1, 5, 2);
        x.begin(3, 0, 2);
        Check.same("kind(1) after refused begins", x.kind(1), 2);
        Check.same("kind(2) after refused begins", x.kind(2), 1);
        x.even();
        x.grow(1);
        Check.same("criterion, depth limit and leaf size stay", x.gain(1), 4 * 4096 + 3);
    }

    private static void weightsAndVotesStay() {
        SurrogateTree x = Trees.drawn();
        x.tally();
        x.cut(1, 1);
        x.begin(0, 4, 1);
        Check.same("weight(2) after begin", x.weight(2), 2);
        Check.same("weight(3) after begin", x.weight(3), 0);
        Check.same("votes(3, 1) after begin", x.votes(3, 1), 1);
        Check.same("rowsOf(1) after begin", x.rowsOf(1), 7);
        Check.same("kind(1) after begin", x.kind(1), 0);
    }

    private static void settingsWork() {
        SurrogateTree x = Trees.line(0, 0, 1);
        x.begin(1, 4, 1);
        x.grow(1);
        Check.same("gain by criterion 1", x.gain(1), 4096 + 1);
        x.begin(2, 4, 1);
        x.grow(1);
        Check.same("gain by criterion 2", x.gain(1), 8 * 4096 + 3);
        x.begin(2, 4, 2);
        x.grow(1);
        Check.same("leaf size 2 leaves no split", x.kind(1), 1);
        x.begin(2, 0, 1);
        x.grow(1);
        Check.same("depth limit 0 leaves no split", x.kind(1), 1);
    }
}
