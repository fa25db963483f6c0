/** The edges that the document names for rows, weights and settings: terms, promises 1, 2, 3, 5, 6. */
public final class RowEdgesTest {
    private static final int NONE = Trees.NONE;
    private static final int LOW = Integer.MIN_VALUE;
    private static final int HIGH = Integer.MAX_VALUE;

    public static void main(String[] args) {
        sixteenRowsAtMost();
        anyIntIsAValue();
        missingIsNoValue();
        weightsFromZeroOn();
        weightsAreSummed();
        rowsOfWeightZero();
        undrawnRowsMakeNoStandIn();
        rootHasTheWeightyRows();
        aNewObjectHasNoRows();
        aNewObjectsSettings();
        aNewObjectsRootWaits();
        refusedForItsClass();
        refusedWhenFull();
        aRowMakesWeightsOneAndVotesZero();
        aRowTakesTheVotesForEveryClass();
        beginsAtTheEdges();
        beginsBeyondTheEdges();
        beginKeepsWeightsAndVotes();
        evenAmongDrawnRows();
        evenWithoutRows();
        weightOfNoSuchRow();
        Check.end();
    }

    private static void sixteenRowsAtMost() {
        Check.sentence("Terms", "ROWS 0, 1, .. (at most 16) have three values each");
        SurrogateTree x = new SurrogateTree();
        for (int row = 0; row < 16; row++) {
            Check.same("row " + row, x.addRow(row, -row, row, 3), row);
        }
        Check.same("row 16", x.addRow(16, -16, 16, 3), -1);
        Check.same("all sixteen are at the root", x.rowsOf(1), 65535);
    }

    private static void anyIntIsAValue() {
        Check.sentence("Terms", "A value is any int");
        for (int f = 0; f < 3; f++) {
            SurrogateTree x = new SurrogateTree();
            addAt(x, f, LOW + 1, 0);
            addAt(x, f, HIGH, 1);
            x.grow(1);
            Check.same("feature", x.rule(1, 0), f);
            Check.same("threshold between the least and the greatest value", x.threshold(1, 0), 0);
            Check.same("the least value is left", x.rowsOf(2), 1);
            Check.same("the greatest value is right", x.rowsOf(3), 2);
        }
    }

    private static void addAt(SurrogateTree x, int feature, int value, int inClass) {
        x.addRow(feature == 0 ? value : NONE, feature == 1 ? value : NONE, feature == 2 ? value : NONE, inClass);
    }

    private static void missingIsNoValue() {
        Check.sentence("Terms", "MISSING says that there is none: the row is not PRESENT at that feature");
        for (int f = 0; f < 3; f++) {
            SurrogateTree x = new SurrogateTree();
            addAt(x, f, NONE, 0);
            addAt(x, f, LOW + 1, 1);
            x.grow(1);
            Check.same("no threshold between none and the least value", x.kind(1), 1);
        }
    }

    private static void weightsFromZeroOn() {
        Check.sentence("Terms", "Every row has a WEIGHT, a whole number from 0 on");
        SurrogateTree x = Trees.line(0, 1, 2, 3, 0);
        x.bag(162);
        Check.same("a row that was never drawn", x.weight(0), 0);
        Check.same("a row that was always drawn", x.weight(4), 5);
    }

    /** bag(0) draws five rows 1, 0, 2, 2 and 0 times. */
    private static void weightsAreSummed() {
        Check.sentence("Terms", "the weight of several rows is the sum of theirs");
        SurrogateTree x = Trees.line(0, 0, 1, 0, 0);
        x.bag(0);
        Check.same("class 0 has the weight 3", x.classOf(1), 0);
        Check.same("class 1 has the weight 2", x.error(1), 2);
    }

    /** bag(0) draws four rows 1, 1, 2 and 0 times: row 3, of another class, is not drawn. */
    private static void rowsOfWeightZero() {
        Check.sentence("Terms", "Rows with weight 0 have no part in growing.");
        SurrogateTree x = Trees.table(
            new int[] {0, NONE, NONE, 0}, new int[] {0, NONE, NONE, 0}, new int[] {10, NONE, NONE, 1},
            new int[] {4, NONE, NONE, 3});
        x.bag(0);
        x.grow(1);
        Check.same("its value makes no threshold", x.threshold(1, 0), 5);
        // 4/2 + 4/2 - 8/4
        Check.same("its class makes no gain", x.gain(1), 2 * 4096 + 1);
        Check.same("it is not among the left rows", x.rowsOf(2), 3);
        Check.same("it is not among the right rows", x.rowsOf(3), 4);
    }

    private static void undrawnRowsMakeNoStandIn() {
        Check.sentence("Terms", "Rows with weight 0 have no part in growing.");
        SurrogateTree x = Trees.table(
            new int[] {0, 7, NONE, 0}, new int[] {0, 7, NONE, 0}, new int[] {10, 9, NONE, 1},
            new int[] {4, 2, NONE, 0});
        x.bag(0);
        x.grow(1);
        Check.same("agreement of the drawn rows alone", x.rule(1, 1), 1 + 8 * 4);
        Check.same("threshold of the drawn rows alone", x.threshold(1, 1), 8);
    }

    private static void rootHasTheWeightyRows() {
        Check.sentence("Terms", "those of the root are all rows with weight more than 0");
        SurrogateTree x = Trees.line(0, 1, 2, 3);
        Check.same("even weights", x.rowsOf(1), 15);
        x.bag(0);
        Check.same("row 3 has weight 0", x.rowsOf(1), 7);
        x.bag(174);
        Check.same("row 3 has all the weight", x.rowsOf(1), 8);
        x.even();
        Check.same("even weights again", x.rowsOf(1), 15);
    }

    private static void aNewObjectHasNoRows() {
        Check.sentence("Promise 1", "No rows.");
        SurrogateTree x = new SurrogateTree();
        for (int row = -1; row <= 16; row++) {
            Check.same("weight(" + row + ")", x.weight(row), -1);
            Check.same("votes(" + row + ", 0)", x.votes(row, 0), -1);
        }
        Check.same("bag(7)", x.bag(7), -1);
        Check.same("wrong()", x.wrong(), 0);
        Check.same("the first row's number", x.addRow(1, 2, 3, 0), 0);
    }

    private static void aNewObjectsSettings() {
        Check.sentence("Promise 1", "Criterion 0, depth limit 4, leaf size 1");
        SurrogateTree x = Trees.line(0, 0, 1);
        x.grow(1);
        // 4/2 + 1/1 - 5/3; by criterion 1 it were 1/1, by criterion 2 8/3; its right side has weight 1
        Check.same("gain by criterion 0, with a side of weight 1", x.gain(1), 4 * 4096 + 3);
        SurrogateTree deep = Trees.sixteenLeaves();
        Trees.growWhole(deep);
        Check.same("depth 4 is reached", deep.kind(16), 1);
    }

    private static void aNewObjectsRootWaits() {
        Check.sentence("Promise 1", "growing starts anew (the root has no rows)");
        SurrogateTree x = new SurrogateTree();
        Check.same("kind(1)", x.kind(1), 0);
        Check.same("rowsOf(1)", x.rowsOf(1), 0);
        for (int k = 2; k <= 31; k++) {
            Check.same("kind(" + k + ")", x.kind(k), -1);
        }
    }

    private static void refusedForItsClass() {
        Check.sentence("Promise 2", "-1 (refused) if inClass is not 0 .. 3");
        SurrogateTree x = new SurrogateTree();
        for (int c : new int[] {-1, 4, LOW, HIGH}) {
            Check.same("addRow in class " + c, x.addRow(1, 2, 3, c), -1);
            Check.same("there is still no row", x.weight(0), -1);
        }
        Check.same("addRow in class 0", x.addRow(1, 2, 3, 0), 0);
        Check.same("addRow in class 3", x.addRow(1, 2, 3, 3), 1);
    }

    private static void refusedWhenFull() {
        Check.sentence("Promise 2", "-1 (refused) if .. 16 rows are there");
        SurrogateTree x = Trees.line(new int[15]);
        Check.same("the sixteenth row", x.addRow(1, 2, 3, 0), 15);
        for (int c = 0; c <= 3; c++) {
            Check.same("a seventeenth row in class " + c, x.addRow(1, 2, 3, c), -1);
        }
        Check.same("a seventeenth row in class 4", x.addRow(1, 2, 3, 4), -1);
        Check.same("no row 16", x.weight(16), -1);
        Check.same("the root's rows", x.rowsOf(1), 65535);
    }

    private static void aRowMakesWeightsOneAndVotesZero() {
        Check.sentence("Promise 2", "All weights become 1, all votes 0, and growing starts anew.");
        SurrogateTree x = Trees.line(1, 2);
        x.bag(1);
        x.grow(1);
        x.tally();
        Check.same("a vote before", x.votes(1, 1), 1);
        x.addRow(5, 5, 5, 3);
        Check.same("weight of the row that was drawn twice", x.weight(0), 1);
        Check.same("weight of the row that was not drawn", x.weight(1), 1);
        Check.same("weight of the new row", x.weight(2), 1);
        Check.same("the vote", x.votes(1, 1), 0);
        Check.same("no vote is wrong", x.wrong(), 0);
        Check.same("the root waits", x.kind(1), 0);
        Check.same("the root has all rows", x.rowsOf(1), 7);
    }

    /** Each of the four seeds draws one row alone, which then votes on the three others. */
    private static void aRowTakesTheVotesForEveryClass() {
        Check.sentence("Promise 2", "All weights become 1, all votes 0");
        SurrogateTree x = Trees.line(0, 1, 2, 3);
        for (long seed : new long[] {49, 85, 178, 174}) {
            x.bag(seed);
            x.grow(1);
            Check.same("tally", x.tally(), 3);
        }
        for (int row = 0; row < 4; row++) {
            for (int c = 0; c < 4; c++) {
                Check.same("before, votes(" + row + ", " + c + ")", x.votes(row, c), row == c ? 0 : 1);
            }
        }
        x.addRow(4, NONE, NONE, 0);
        for (int row = 0; row < 5; row++) {
            for (int c = 0; c < 4; c++) {
                Check.same("then, votes(" + row + ", " + c + ")", x.votes(row, c), 0);
            }
        }
    }

    private static void beginsAtTheEdges() {
        Check.sentence("Promise 3", "Sets the criterion, the depth limit and the leaf size .. : true");
        for (int criterion : new int[] {0, 2}) {
            for (int depth : new int[] {0, 4}) {
                for (int leaf : new int[] {1, 8}) {
                    SurrogateTree x = Trees.sixteenLeaves();
                    Check.same("begin", x.begin(criterion, depth, leaf), true);
                    Check.same("the root waits", x.kind(1), 0);
                    x.grow(1);
                    Check.same("depth 0 and leaf size 8 leave no split", x.kind(1), depth == 4 && leaf == 1 ? 2 : 1);
                }
            }
        }
    }

    private static void beginsBeyondTheEdges() {
        Check.sentence("Promise 3", "false (refused) if criterion is not 0 .. 2, depth not 0 .. 4 or leaf not 1 .. 8");
        SurrogateTree x = Trees.line(0, 1, 0);
        x.grow(1);
        for (int wrong : new int[] {-1, 3, LOW, HIGH}) {
            Check.same("criterion " + wrong, x.begin(wrong, 4, 1), false);
        }
        for (int wrong : new int[] {-1, 5, LOW, HIGH}) {
            Check.same("depth " + wrong, x.begin(0, wrong, 1), false);
        }
        for (int wrong : new int[] {0, 9, -1, LOW, HIGH}) {
            Check.same("leaf " + wrong, x.begin(0, 4, wrong), false);
        }
        Check.same("all three", x.begin(3, 5, 9), false);
        Check.same("growing did not start anew", x.kind(1), 2);
    }

    private static void beginKeepsWeightsAndVotes() {
        Check.sentence("Promise 3", "starts growing anew, with weights and votes as they are");
        SurrogateTree x = Trees.line(1, 2);
        x.bag(1);
        x.grow(1);
        x.tally();
        x.begin(1, 0, 8);
        Check.same("weight(0)", x.weight(0), 2);
        Check.same("weight(1)", x.weight(1), 0);
        Check.same("votes(1, 1)", x.votes(1, 1), 1);
        Check.same("the root waits", x.kind(1), 0);
        Check.same("the root's rows", x.rowsOf(1), 1);
    }

    private static void evenAmongDrawnRows() {
        Check.sentence("Promise 5", "All weights become 1, and growing starts anew.");
        SurrogateTree x = Trees.line(0, 1, 2, 3);
        x.bag(174);
        x.grow(1);
        x.tally();
        x.even();
        for (int row = 0; row < 4; row++) {
            Check.same("weight(" + row + ")", x.weight(row), 1);
        }
        Check.same("there is no weight(4)", x.weight(4), -1);
        Check.same("votes stay", x.votes(0, 3), 1);
        Check.same("the root waits", x.kind(1), 0);
        Check.same("the root's rows", x.rowsOf(1), 15);
    }

    private static void evenWithoutRows() {
        Check.sentence("Promise 5", "All weights become 1, and growing starts anew.");
        SurrogateTree x = new SurrogateTree();
        x.grow(1);
        Check.same("a leaf before", x.kind(1), 1);
        x.even();
        Check.same("the root waits", x.kind(1), 0);
        Check.same("the root has no rows", x.rowsOf(1), 0);
        Check.same("there is no row", x.weight(0), -1);
    }

    private static void weightOfNoSuchRow() {
        Check.sentence("Promise 6", "-1 if there is no such row");
        SurrogateTree none = new SurrogateTree();
        SurrogateTree three = Trees.line(0, 1, 2);
        SurrogateTree full = Trees.line(new int[16]);
        for (int row : new int[] {-1, 16, 17, LOW, HIGH}) {
            Check.same("of no rows, weight(" + row + ")", none.weight(row), -1);
            Check.same("of three rows, weight(" + row + ")", three.weight(row), -1);
            Check.same("of sixteen rows, weight(" + row + ")", full.weight(row), -1);
        }
        Check.same("of no rows, weight(0)", none.weight(0), -1);
        Check.same("of three rows, weight(2)", three.weight(2), 1);
        Check.same("of three rows, weight(3)", three.weight(3), -1);
        Check.same("of sixteen rows, weight(15)", full.weight(15), 1);
    }
}
