/** Promises 7, 8, 12, 13 and 14: grow, kind, rowsOf, classOf and error. */
public final class GrowTest {
    public static void main(String[] args) {
        turnsAreCounted();
        wrongTurnsAreRefused();
        theLeastNumberIsNext();
        depthLimits();
        rowsClassAndErrorOfNodes();
        classTiesAndWeights();
        noSuchNode();
        rowsWithoutWeightHaveNoPart();
        missingRowsGoDown();
        Check.end();
    }

    private static void turnsAreCounted() {
        SurrogateTree x = Trees.line(0, 1, 0, 1, 0, 1, 0, 1, 0, 1, 0, 1, 0, 1, 0, 1);
        Check.same("grow(1)", x.grow(1), 1);
        Check.same("grow(2)", x.grow(2), 2);
        Check.same("grow(3)", x.grow(3), 3);
        Check.same("grow(2)", x.grow(2), 2);
        Check.same("grow(3), the last turn", x.grow(3), 1);
        Check.same("grow(3), no turn", x.grow(3), 0);
        Check.same("grow(1), no turn", x.grow(1), 0);
    }

    private static void wrongTurnsAreRefused() {
        SurrogateTree x = Trees.line(0, 1);
        for (int n : new int[] {0, -1, 4, Integer.MIN_VALUE, Integer.MAX_VALUE}) {
            Check.same("grow(" + n + ")", x.grow(n), -1);
            Check.same("kind(1) after it", x.kind(1), 0);
        }
        Trees.growWhole(x);
        Check.same("grow(4) on a grown tree", x.grow(4), -1);
    }

    private static void theLeastNumberIsNext() {
        SurrogateTree x = Trees.halves();
        kinds(x, "at first", 0, -1, -1, -1, -1, -1, -1);
        x.grow(1);
        kinds(x, "turn 1", 2, 0, 0, -1, -1, -1, -1);
        x.grow(1);
        kinds(x, "turn 2", 2, 2, 0, 0, 0, -1, -1);
        x.grow(1);
        kinds(x, "turn 3", 2, 2, 2, 0, 0, 0, 0);
        x.grow(1);
        kinds(x, "turn 4", 2, 2, 2, 1, 0, 0, 0);
        x.grow(3);
        kinds(x, "turn 7", 2, 2, 2, 1, 1, 1, 1);
    }

    private static void kinds(SurrogateTree x, String when, int... due) {
        for (int k = 1; k <= due.length; k++) {
            Check.same(when + ": kind(" + k + ")", x.kind(k), due[k - 1]);
        }
    }

    /** Every split of the alternating line takes its first row off. */
    private static void depthLimits() {
        SurrogateTree x = Trees.line(0, 1, 0, 1, 0, 1, 0, 1, 0, 1, 0, 1, 0, 1, 0, 1);
        for (int depth = 0; depth <= 4; depth++) {
            x.begin(0, depth, 1);
            Trees.growWhole(x);
            int last = (2 << depth) - 1;
            Check.same("kind at depth " + depth, x.kind(last), 1);
            Check.same("rows at depth " + depth, x.rowsOf(last), 0xFFFF & -1 << depth);
            Check.same("kind below depth " + depth, x.kind(2 * last), -1);
            for (int k = last / 2; k >= 1; k /= 2) {
                Check.same("kind above depth " + depth, x.kind(k), 2);
                Check.same("kind beside, above depth " + depth, x.kind(2 * k), 1);
            }
        }
    }

    private static void rowsClassAndErrorOfNodes() {
        SurrogateTree x = Trees.halves();
        node(x, 1, 255, 0, 5);
        x.grow(3);
        node(x, 1, 255, 0, 5);
        node(x, 2, 15, 0, 1);
        node(x, 3, 240, 2, 1);
        node(x, 4, 7, 0, 0);
        node(x, 5, 8, 1, 0);
        node(x, 6, 112, 2, 0);
        node(x, 7, 128, 3, 0);
    }

    private static void node(SurrogateTree x, int k, int rows, int inClass, int error) {
        Check.same("rowsOf(" + k + ")", x.rowsOf(k), rows);
        Check.same("classOf(" + k + ")", x.classOf(k), inClass);
        Check.same("error(" + k + ")", x.error(k), error);
    }

    private static void classTiesAndWeights() {
        node(Trees.line(3, 2, 3, 2), 1, 15, 2, 2);
        node(Trees.line(3, 1, 3), 1, 7, 3, 1);
        SurrogateTree x = Trees.line(1, 2, 3);
        x.bag(0);
        node(x, 1, 5, 3, 1);
        x.bag(22);
        node(x, 1, 4, 3, 0);
    }

    private static void noSuchNode() {
        SurrogateTree x = Trees.halves();
        Trees.growWhole(x);
        for (int k : new int[] {0, -1, 8, 15, 31, 32, 64, Integer.MIN_VALUE, Integer.MAX_VALUE}) {
            Check.same("kind(" + k + ")", x.kind(k), -1);
            node(x, k, -1, -1, -1);
        }
    }

    /** Row 1, of another class, is not drawn: the root has nothing to part. */
    private static void rowsWithoutWeightHaveNoPart() {
        SurrogateTree x = Trees.line(1, 2);
        x.bag(1);
        node(x, 1, 1, 1, 0);
        Check.same("one turn", x.grow(3), 1);
        Check.same("a leaf", x.kind(1), 1);
    }

    private static void missingRowsGoDown() {
        int none = Trees.NONE;
        SurrogateTree x = new SurrogateTree();
        x.addRow(0, none, none, 0);
        x.addRow(1, none, none, 1);
        x.addRow(none, none, none, 1);
        x.grow(1);
        Check.same("equal sides: left", x.rowsOf(2), 5);
        x.addRow(2, none, none, 1);
        x.grow(1);
        Check.same("the right side is heavier: right", x.rowsOf(3), 14);
        node(x, 2, 1, 0, 0);
    }
}
