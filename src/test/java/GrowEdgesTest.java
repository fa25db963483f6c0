import java.util.function.Consumer;

/** The edges that the document names for nodes and turns: terms, promises 7, 8, 12, 13, 14. */
public final class GrowEdgesTest {
    private static final int LOW = Integer.MIN_VALUE;
    private static final int HIGH = Integer.MAX_VALUE;
    private static final int[] NO_NODES = {0, -1, -2, 32, 33, 64, 1 << 30, LOW, LOW + 1, HIGH};

    public static void main(String[] args) {
        childrenDownToNode31();
        depthsOfRootAndChildren();
        anewTheRootIsTheOnlyNode();
        theLeastOfSeveralClasses();
        classWithoutRows();
        errorsFromNoneToMost();
        theLeastWaitingNode();
        depthLimitsMakeLeaves();
        noSplitMakesALeaf();
        fewerTurnsPerhapsNone();
        turnsOutsideOneToThree();
        noNodeNoKind();
        noNodeNoRows();
        noNodeNoClass();
        noNodeNoError();
        Check.end();
    }

    private static void childrenDownToNode31() {
        Check.sentence("Terms", "the root is 1, the children of node k are 2k (left) and 2k + 1 (right)");
        SurrogateTree x = Trees.sixteenLeaves();
        Trees.growWhole(x);
        for (int k = 1; k <= 31; k++) {
            Check.same("kind(" + k + ")", x.kind(k), k < 16 ? 2 : 1);
            if (k < 16) {
                Check.same("left and right of " + k, x.rowsOf(2 * k) ^ x.rowsOf(2 * k + 1), x.rowsOf(k));
                Check.same("in both of " + k, x.rowsOf(2 * k) & x.rowsOf(2 * k + 1), 0);
            }
        }
        Check.same("the first split sends row 0 left", x.rowsOf(2) & 1, 1);
        Check.same("the first split sends row 2 right", x.rowsOf(3) & 4, 4);
        Check.same("sixteen leaves", x.cut(0, 0), 16);
    }

    /** With depth limit d the nodes at depth d, from 2^d on, are leaves. */
    private static void depthsOfRootAndChildren() {
        Check.sentence("Terms", "The DEPTH of the root is 0, that of a child one more than its parent's.");
        for (int depth = 0; depth <= 4; depth++) {
            SurrogateTree x = Trees.sixteenLeaves();
            x.begin(0, depth, 1);
            Trees.growWhole(x);
            for (int k = 1; k <= 31; k++) {
                int due = k < 1 << depth ? 2 : k < 2 << depth ? 1 : -1;
                Check.same("depth limit " + depth + ", kind(" + k + ")", x.kind(k), due);
            }
        }
    }

    private static void anewTheRootIsTheOnlyNode() {
        Check.sentence("Terms", "when growing starts ANEW, the root is the only node, and waits");
        anew("begin", x -> x.begin(1, 2, 3));
        anew("bag", x -> x.bag(9));
        anew("even", SurrogateTree::even);
        SurrogateTree x = Trees.line(0, 1, 0, 1, 0, 1);
        Trees.growWhole(x);
        x.addRow(1, 1, 1, 1);
        onlyTheRoot("addRow", x);
    }

    private static void anew(String call, Consumer<SurrogateTree> maker) {
        SurrogateTree grown = Trees.sixteenLeaves();
        Trees.growWhole(grown);
        maker.accept(grown);
        onlyTheRoot(call + " of a grown tree", grown);
        SurrogateTree cut = Trees.sixteenLeaves();
        Trees.growWhole(cut);
        cut.cut(2, 3);
        maker.accept(cut);
        onlyTheRoot(call + " of a cut tree", cut);
        SurrogateTree growing = Trees.sixteenLeaves();
        growing.grow(3);
        maker.accept(growing);
        onlyTheRoot(call + " of a growing tree", growing);
        Check.same(call + ": the next turn is the root's", growing.grow(1), 1);
        Check.isTrue(call + ": the root waits no more", growing.kind(1) != 0);
    }

    private static void onlyTheRoot(String call, SurrogateTree x) {
        Check.same(call + ": kind(1)", x.kind(1), 0);
        for (int k = 2; k <= 31; k++) {
            Check.same(call + ": kind(" + k + ")", x.kind(k), -1);
            Check.same(call + ": rowsOf(" + k + ")", x.rowsOf(k), -1);
        }
        Check.same(call + ": reach", x.reach(0, 0, 0), 1);
        Check.same(call + ": no split", x.rule(1, 0), -1);
    }

    private static void theLeastOfSeveralClasses() {
        Check.sentence("Terms", "The class of a node is the one in which its rows have the greatest weight (the least of several");
        Check.same("all four classes", Trees.line(3, 2, 1, 0).classOf(1), 0);
        Check.same("classes 1, 2, 3", Trees.line(3, 2, 1).classOf(1), 1);
        Check.same("classes 2, 3", Trees.line(3, 2).classOf(1), 2);
        Check.same("class 3 has more", Trees.line(3, 0, 3).classOf(1), 3);
        Check.same("class 0 has less", Trees.line(0, 3, 2, 3, 2).classOf(1), 2);
        SurrogateTree drawn = Trees.line(1, 3, 3);
        // weights 1, 2, 0: two rows of class 3, one of them without weight
        drawn.bag(197);
        Check.same("by weight", drawn.classOf(1), 3);
    }

    private static void classWithoutRows() {
        Check.sentence("Terms", "0 if it has no rows");
        SurrogateTree x = new SurrogateTree();
        Check.same("class of a root that waits", x.classOf(1), 0);
        Check.same("error of a root that waits", x.error(1), 0);
        x.grow(1);
        Check.same("class of a leaf", x.classOf(1), 0);
        Check.same("error of a leaf", x.error(1), 0);
    }

    private static void errorsFromNoneToMost() {
        Check.sentence("Terms", "Its ERROR is the weight of its rows that are in other classes than that.");
        Check.same("one class", Trees.line(2, 2, 2).error(1), 0);
        Check.same("one row of another class", Trees.line(2, 0, 2).error(1), 1);
        Check.same("four classes of four rows", Trees.line(0, 1, 2, 3, 0, 1, 2, 3, 0, 1, 2, 3, 0, 1, 2, 3).error(1), 12);
        SurrogateTree drawn = Trees.line(3, 0, 1);
        // weights 1, 2, 0: class 0 has weight 2, class 3 weight 1, class 1 none
        drawn.bag(197);
        Check.same("by weight", drawn.error(1), 1);
    }

    private static void theLeastWaitingNode() {
        Check.sentence("Terms", "A TURN of growing takes the waiting node with the least number.");
        SurrogateTree x = Trees.sixteenLeaves();
        for (int k = 1; k <= 31; k++) {
            Check.same("node " + k + " waits before its turn", x.kind(k), 0);
            Check.same("one turn", x.grow(1), 1);
            Check.isTrue("node " + k + " has had its turn", x.kind(k) > 0);
            if (k < 31) {
                Check.same("node " + (k + 1) + " has not", x.kind(k + 1), 0);
            }
        }
        Check.same("no node waits", x.grow(1), 0);
    }

    private static void depthLimitsMakeLeaves() {
        Check.sentence("Terms", "If its depth is the DEPTH LIMIT .. it becomes a leaf.");
        SurrogateTree x = Trees.line(0, 1);
        x.begin(0, 0, 1);
        Check.same("the only turn at depth limit 0", x.grow(3), 1);
        Check.same("the root is a leaf", x.kind(1), 1);
        x.begin(0, 1, 1);
        Check.same("three turns at depth limit 1", x.grow(3), 3);
        Check.same("the root is split", x.kind(1), 2);
    }

    private static void noSplitMakesALeaf() {
        Check.sentence("Terms", "or it has no split whose gain is more than 0, it becomes a leaf");
        leaf("no rows", new SurrogateTree());
        leaf("one row", Trees.line(1));
        leaf("one class", Trees.line(1, 1, 1, 1));
        int none = Trees.NONE;
        leaf("no values", Trees.table(new int[] {none, none, none, 0}, new int[] {none, none, none, 1}));
        leaf("one value at each feature", Trees.table(new int[] {4, 5, none, 0}, new int[] {4, 5, 6, 1}));
        // both sides have one row of each class
        int[][] mixed = {{0, none, none, 0}, {0, none, none, 1}, {1, none, none, 0}, {1, none, none, 1}};
        for (int criterion = 0; criterion <= 2; criterion++) {
            SurrogateTree x = Trees.table(mixed);
            x.begin(criterion, 4, 1);
            leaf("a gain of 0 by criterion " + criterion, x);
        }
        SurrogateTree big = Trees.line(0, 0, 1, 1);
        big.begin(0, 4, 3);
        leaf("sides lighter than the leaf size", big);
    }

    private static void leaf(String what, SurrogateTree x) {
        Check.same(what + ": one turn", x.grow(3), 1);
        Check.same(what + ": kind(1)", x.kind(1), 1);
        Check.same(what + ": kind(2)", x.kind(2), -1);
        Check.same(what + ": kind(3)", x.kind(3), -1);
    }

    private static void fewerTurnsPerhapsNone() {
        Check.sentence("Promise 7", "Makes n turns of growing, or fewer (perhaps none) if no node waits any more");
        for (int n = 1; n <= 3; n++) {
            SurrogateTree x = Trees.sixteenLeaves();
            int made = 0;
            for (int call = 0; call < 31 / n; call++) {
                made += x.grow(n);
            }
            Check.same("full calls of " + n + " turns", made, 31 / n * n);
            Check.same("the turns that are left", x.grow(n), 31 % n);
            Check.same("none", x.grow(n), 0);
            Check.same("none again", x.grow(3), 0);
        }
        SurrogateTree three = Trees.line(0, 1);
        Check.same("exactly three turns", three.grow(3), 3);
        SurrogateTree two = Trees.line(0, 1);
        two.grow(2);
        Check.same("one turn of two", two.grow(2), 1);
    }

    private static void turnsOutsideOneToThree() {
        Check.sentence("Promise 7", "-1 (refused) if n is not 1 .. 3");
        SurrogateTree waiting = Trees.line(0, 1);
        SurrogateTree grown = Trees.line(0, 1);
        grown.grow(3);
        for (int n : new int[] {0, 4, -1, 5, LOW, HIGH}) {
            Check.same("grow(" + n + ") while the root waits", waiting.grow(n), -1);
            Check.same("the root waits still", waiting.kind(1), 0);
            Check.same("grow(" + n + ") when no node waits", grown.grow(n), -1);
        }
    }

    /** Node 2 of this tree is a leaf: it has no children, while node 3 has. */
    private static SurrogateTree lopsided() {
        SurrogateTree x = Trees.line(0, 1, 0);
        Trees.growWhole(x);
        return x;
    }

    private static void noNodeNoKind() {
        Check.sentence("Promise 8", "-1 if there is no node k in it");
        for (SurrogateTree x : new SurrogateTree[] {new SurrogateTree(), lopsided(), fullyGrown()}) {
            for (int k : NO_NODES) {
                Check.same("kind(" + k + ")", x.kind(k), -1);
            }
        }
        Check.same("kind(4), below a leaf", lopsided().kind(4), -1);
        Check.same("kind(7), a leaf", lopsided().kind(7), 1);
        SurrogateTree cut = lopsided();
        cut.cut(1, 1);
        Check.same("kind(7), cut away", cut.kind(7), -1);
    }

    private static SurrogateTree fullyGrown() {
        SurrogateTree x = Trees.sixteenLeaves();
        Trees.growWhole(x);
        return x;
    }

    private static void noNodeNoRows() {
        Check.sentence("Promise 12", "-1 if there is no such node");
        for (SurrogateTree x : new SurrogateTree[] {new SurrogateTree(), lopsided(), fullyGrown()}) {
            for (int k : NO_NODES) {
                Check.same("rowsOf(" + k + ")", x.rowsOf(k), -1);
            }
        }
        Check.same("rowsOf(4), below a leaf", lopsided().rowsOf(4), -1);
        Check.same("rowsOf(7), row 2", lopsided().rowsOf(7), 4);
        SurrogateTree cut = lopsided();
        cut.cut(1, 1);
        Check.same("rowsOf(7), cut away", cut.rowsOf(7), -1);
        Check.same("rowsOf(1) of a new object", new SurrogateTree().rowsOf(1), 0);
    }

    private static void noNodeNoClass() {
        Check.sentence("Promise 13", "-1 if there is no such node");
        for (SurrogateTree x : new SurrogateTree[] {new SurrogateTree(), lopsided(), fullyGrown()}) {
            for (int k : NO_NODES) {
                Check.same("classOf(" + k + ")", x.classOf(k), -1);
            }
        }
        Check.same("classOf(4), below a leaf", lopsided().classOf(4), -1);
        Check.same("classOf(6), row 1's", lopsided().classOf(6), 1);
        SurrogateTree cut = lopsided();
        cut.cut(1, 1);
        Check.same("classOf(6), cut away", cut.classOf(6), -1);
    }

    private static void noNodeNoError() {
        Check.sentence("Promise 14", "-1 if there is no such node");
        for (SurrogateTree x : new SurrogateTree[] {new SurrogateTree(), lopsided(), fullyGrown()}) {
            for (int k : NO_NODES) {
                Check.same("error(" + k + ")", x.error(k), -1);
            }
        }
        Check.same("error(4), below a leaf", lopsided().error(4), -1);
        Check.same("error(3)", lopsided().error(3), 1);
        SurrogateTree cut = lopsided();
        cut.cut(1, 1);
        Check.same("error(3), cut away", cut.error(3), -1);
        Check.same("error(1) of the cut tree", cut.error(1), 1);
    }
}
