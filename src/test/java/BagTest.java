/** Promise 4: bag. The weights that are due were drawn by another program, in another language. */
public final class BagTest {
    public static void main(String[] args) {
        noRows();
        draws();
        eightThrowsAtMost();
        growingStartsAnew();
        Check.end();
    }

    private static void noRows() {
        SurrogateTree x = new SurrogateTree();
        x.grow(1);
        Check.same("bag without rows", x.bag(1), -1);
        Check.same("it is refused: the leaf stays", x.kind(1), 1);
    }

    private static void draws() {
        due(0, 1);
        due(1, 1);
        due(-1, 1);
        due(0, 1, 1);
        due(1, 2, 0);
        due(4, 0, 2);
        due(22, 0, 0, 3);
        due(0, 1, 0, 2, 2, 0);
        due(1, 1, 1, 1, 1, 1);
        due(-1, 3, 0, 1, 0, 1);
        due(Long.MAX_VALUE, 0, 1, 0, 2, 2);
        due(Long.MIN_VALUE, 0, 2, 2, 1, 0);
        due(0, 1, 0, 1, 1, 2, 1, 1);
        due(1, 1, 1, 0, 1, 1, 2, 1);
        due(Long.MIN_VALUE, 1, 2, 3, 0, 1, 0, 0);
        due(0, 2, 2, 5, 0, 0, 1, 2, 1, 0, 0, 0, 2, 0, 1, 0, 0);
        due(-1, 0, 0, 1, 1, 2, 1, 0, 1, 3, 3, 0, 1, 0, 1, 1, 1);
    }

    /** With this seed and eleven rows eight throws of one draw all miss. */
    private static void eightThrowsAtMost() {
        due(3846, 0, 3, 1, 0, 1, 0, 2, 0, 0, 2, 2);
    }

    private static void due(long seed, int... weights) {
        SurrogateTree x = Trees.line(new int[weights.length]);
        int undrawn = 0;
        int drawn = 0;
        for (int row = 0; row < weights.length; row++) {
            undrawn += weights[row] == 0 ? 1 : 0;
            drawn += weights[row] == 0 ? 0 : 1 << row;
        }
        String call = "bag(" + seed + ") of " + weights.length;
        for (int time = 0; time < 2; time++) {
            Check.same(call, x.bag(seed), undrawn);
            for (int row = 0; row < weights.length; row++) {
                Check.same(call + ": weight(" + row + ")", x.weight(row), weights[row]);
            }
            Check.same(call + ": rowsOf(1)", x.rowsOf(1), drawn);
        }
    }

    private static void growingStartsAnew() {
        SurrogateTree x = Trees.drawn();
        x.tally();
        x.cut(1, 1);
        Check.same("bag(0)", x.bag(0), 1);
        Check.same("kind(1) after bag", x.kind(1), 0);
        Check.same("kind(2) after bag", x.kind(2), -1);
        Check.same("votes stay", x.votes(3, 1), 1);
        Check.same("error by weight", x.error(1), 1);
    }
}
