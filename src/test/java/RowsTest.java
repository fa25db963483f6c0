/** Promises 1, 2, 5 and 6: a new object, addRow, even and weight. */
public final class RowsTest {
    public static void main(String[] args) {
        newObject();
        newObjectsSettings();
        rowsAreNumberedUpToSixteen();
        wrongClassesAreRefused();
        aRowStartsAllAnew();
        evenWeighsAnew();
        evenKeepsVotesAndSettings();
        weightOfNoRow();
        Check.end();
    }

    private static void newObject() {
        SurrogateTree x = new SurrogateTree();
        Check.same("new: kind(1)", x.kind(1), 0);
        Check.same("new: kind(2)", x.kind(2), -1);
        Check.same("new: rowsOf(1)", x.rowsOf(1), 0);
        Check.same("new: classOf(1)", x.classOf(1), 0);
        Check.same("new: error(1)", x.error(1), 0);
        Check.same("new: weight(0)", x.weight(0), -1);
        Check.same("new: votes(0, 0)", x.votes(0, 0), -1);
        Check.same("new: wrong()", x.wrong(), 0);
        Check.same("new: reach", x.reach(1, 2, 3), 1);
        Check.same("new: cut", x.cut(0, 1), -1);
        Check.same("new: tally", x.tally(), -1);
        Check.same("MISSING", SurrogateTree.MISSING, Integer.MIN_VALUE);
    }

    private static void newObjectsSettings() {
        SurrogateTree x = Trees.line(0, 0, 1);
        x.grow(1);
        Check.same("new: the gain is criterion 0's, the leaf size 1", x.gain(1), 4 * 4096 + 3);
        SurrogateTree deep = Trees.line(0, 1, 0, 1, 0, 1, 0, 1, 0, 1, 0, 1, 0, 1, 0, 1);
        Trees.growWhole(deep);
        Check.same("new: depth 4 is reached", deep.kind(31), 1);
        Check.same("new: below depth 4 is nothing", deep.rowsOf(31), 0xFFF0);
    }

    private static void rowsAreNumberedUpToSixteen() {
        SurrogateTree x = new SurrogateTree();
        for (int i = 0; i < 16; i++) {
            Check.same("addRow", x.addRow(i, i, i, i % 4), i);
            Check.same("rows of the root", x.rowsOf(1), (2 << i) - 1);
        }
        Check.same("addRow when full", x.addRow(1, 1, 1, 1), -1);
        Check.same("weight(15)", x.weight(15), 1);
        Check.same("weight(16)", x.weight(16), -1);
    }

    private static void wrongClassesAreRefused() {
        SurrogateTree x = new SurrogateTree();
        for (int wrong : new int[] {-1, 4, Integer.MIN_VALUE, Integer.MAX_VALUE}) {
            Check.same("addRow in class " + wrong, x.addRow(0, 0, 0, wrong), -1);
        }
        for (int c = 0; c < 4; c++) {
            Check.same("addRow in class " + c, x.addRow(0, 0, 0, c), c);
        }
    }

    private static void aRowStartsAllAnew() {
        SurrogateTree x = Trees.drawn();
        x.tally();
        Check.same("a vote is there", x.votes(3, 1), 1);
        Check.same("addRow", x.addRow(7, 7, 7, 3), 4);
        for (int row = 0; row < 5; row++) {
            Check.same("weight after addRow", x.weight(row), 1);
            for (int c = 0; c < 4; c++) {
                Check.same("votes after addRow", x.votes(row, c), 0);
            }
        }
        Check.same("kind(1) after addRow", x.kind(1), 0);
        Check.same("kind(2) after addRow", x.kind(2), -1);
        Check.same("rowsOf(1) after addRow", x.rowsOf(1), 31);
    }

    private static void evenWeighsAnew() {
        SurrogateTree x = Trees.drawn();
        Check.same("weight(2) before even", x.weight(2), 2);
        Check.same("weight(3) before even", x.weight(3), 0);
        x.even();
        for (int row = 0; row < 4; row++) {
            Check.same("weight after even", x.weight(row), 1);
        }
        Check.same("kind(1) after even", x.kind(1), 0);
        Check.same("kind(2) after even", x.kind(2), -1);
        Check.same("rowsOf(1) after even", x.rowsOf(1), 15);
        Check.same("error(1) after even", x.error(1), 2);
        SurrogateTree none = new SurrogateTree();
        none.grow(1);
        none.even();
        Check.same("kind(1) after even without rows", none.kind(1), 0);
    }

    private static void evenKeepsVotesAndSettings() {
        SurrogateTree x = Trees.drawn();
        x.tally();
        x.begin(0, 0, 1);
        x.even();
        Check.same("votes after even", x.votes(3, 1), 1);
        x.grow(1);
        Check.same("the depth limit stays", x.kind(1), 1);
    }

    private static void weightOfNoRow() {
        SurrogateTree x = Trees.drawn();
        Check.same("weight(0)", x.weight(0), 1);
        for (int row : new int[] {-1, 4, 15, 16, Integer.MIN_VALUE, Integer.MAX_VALUE}) {
            Check.same("weight(" + row + ")", x.weight(row), -1);
        }
    }
}
