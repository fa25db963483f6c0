/** Promises 16 and 17: cut and breakAt. */
public final class CutTest {
    public static void main(String[] args) {
        oneBreak();
        threeBreaks();
        splitsThatSaveNothing();
        theGrownTreeIsCut();
        wholeTreeAgain();
        wrongFractions();
        notWhileANodeWaits();
        aLeafAlone();
        wrongBreaks();
        growingAfterACut();
        Check.end();
    }

    /** Classes 0 1 0: the root saves an error of 1 with two leaves more, node 3 with one more. */
    private static void oneBreak() {
        SurrogateTree x = Trees.line(0, 1, 0);
        Trees.growWhole(x);
        Check.same("break 0", x.breakAt(0), 32 + 2);
        Check.same("break 1", x.breakAt(1), -1);
        Check.same("cut at 0", x.cut(0, 1), 3);
        Check.same("cut just below the break", x.cut(499, 1000), 3);
        Check.same("cut at the break", x.cut(1, 2), 1);
        Check.same("cut at the break, not in lowest terms", x.cut(500, 1000), 1);
        Check.same("cut above the break", x.cut(1000, 1), 1);
        Check.same("kind(1)", x.kind(1), 1);
        Check.same("kind(2)", x.kind(2), -1);
        Check.same("kind(6)", x.kind(6), -1);
    }

    /** Six rows of class 0, five of class 1, three of 2 and two of 3, each class in one stretch. */
    private static void threeBreaks() {
        SurrogateTree x = Trees.line(0, 0, 0, 0, 0, 0, 1, 1, 1, 1, 1, 2, 2, 2, 3, 3);
        Trees.growWhole(x);
        // error 10 at the root, split at 5; error 5 at node 3, split at 10; error 2 at node 7
        Check.same("root error", x.error(1), 10);
        Check.same("node 3's error", x.error(3), 5);
        Check.same("node 7's error", x.error(7), 2);
        Check.same("break 0: node 7 saves 2", x.breakAt(0), 2 * 32 + 1);
        Check.same("break 1: node 3 saves 3", x.breakAt(1), 3 * 32 + 1);
        Check.same("break 2: the root saves 5", x.breakAt(2), 5 * 32 + 1);
        Check.same("break 3", x.breakAt(3), -1);
        Check.same("four leaves", x.cut(1, 1), 4);
        Check.same("three leaves", x.cut(2, 1), 3);
        Check.same("node 7 is a leaf", x.kind(7), 1);
        Check.same("its rows", x.rowsOf(7), 0xF800);
        Check.same("its class", x.classOf(7), 2);
        Check.same("its error", x.error(7), 2);
        Check.same("nothing below it", x.rowsOf(14), -1);
        Check.same("no class below it", x.classOf(15), -1);
        Check.same("no error below it", x.error(14), -1);
        Check.same("node 3 is still split", x.rule(3, 0), 0);
        Check.same("the breaks are the grown tree's", x.breakAt(0), 2 * 32 + 1);
        Check.same("two leaves", x.cut(9, 2), 2);
        Check.same("one leaf", x.cut(5, 1), 1);
    }

    /** Rows of class 0 at 0 and at 1, three rows at 2 of which one is not: all nodes have class 0. */
    private static void splitsThatSaveNothing() {
        SurrogateTree x = Trees.line(0, 0, 1);
        x.addRow(2, Trees.NONE, Trees.NONE, 0);
        x.addRow(2, Trees.NONE, Trees.NONE, 0);
        Trees.growWhole(x);
        Check.same("grown with two leaves", x.cut(0, 0), 2);
        Check.same("cut at 0", x.cut(0, 1), 1);
        Check.same("cut at 0 by another divisor", x.cut(0, 7), 1);
        Check.same("no break above 0", x.breakAt(0), -1);
    }

    private static void theGrownTreeIsCut() {
        SurrogateTree x = Trees.line(0, 1, 0);
        Trees.growWhole(x);
        Check.same("one leaf", x.cut(1, 1), 1);
        Check.same("three leaves again", x.cut(1, 3), 3);
        Check.same("kind(7)", x.kind(7), 1);
    }

    private static void wholeTreeAgain() {
        SurrogateTree whole = Trees.line(0, 1, 0);
        SurrogateTree cut = Trees.line(0, 1, 0);
        SurrogateTree again = Trees.line(0, 1, 0);
        Trees.growWhole(whole);
        Trees.growWhole(cut);
        Trees.growWhole(again);
        cut.cut(1, 1);
        again.cut(1, 1);
        Check.same("cut(1000, 0)", again.cut(1000, 0), 3);
        String due = Snapshot.of(whole);
        Check.isTrue("the cut tree is another", !due.equals(Snapshot.of(cut)));
        Check.isTrue("the whole tree is shown again", due.equals(Snapshot.of(again)));
    }

    private static void wrongFractions() {
        SurrogateTree x = Trees.line(0, 1, 0);
        Trees.growWhole(x);
        x.cut(1, 1);
        int low = Integer.MIN_VALUE;
        int high = Integer.MAX_VALUE;
        int[][] wrong = {
            {-1, 1}, {1001, 1}, {0, -1}, {0, 1001}, {-1, 0}, {1001, 0}, {low, 0}, {high, 0}, {0, low},
            {0, high}, {low, low}, {high, high}
        };
        for (int[] w : wrong) {
            Check.same("cut(" + w[0] + ", " + w[1] + ")", x.cut(w[0], w[1]), -1);
            Check.same("the cut tree is still shown", x.kind(1), 1);
        }
        Check.same("cut(0, 1000)", x.cut(0, 1000), 3);
        Check.same("cut(1000, 1000)", x.cut(1000, 1000), 1);
        Check.same("cut(0, 0)", x.cut(0, 0), 3);
    }

    private static void notWhileANodeWaits() {
        SurrogateTree x = Trees.line(0, 1, 0);
        for (int turn = 0; turn < 5; turn++) {
            Check.same("cut before turn " + turn, x.cut(0, 1), -1);
            Check.same("cut(0, 0) before turn " + turn, x.cut(0, 0), -1);
            Check.same("breakAt before turn " + turn, x.breakAt(0), -1);
            x.grow(1);
        }
        Check.same("cut of the grown tree", x.cut(0, 1), 3);
        x.even();
        Check.same("cut when growing is anew", x.cut(0, 1), -1);
        Check.same("breakAt when growing is anew", x.breakAt(0), -1);
    }

    private static void aLeafAlone() {
        SurrogateTree x = new SurrogateTree();
        x.grow(1);
        Check.same("cut without rows", x.cut(0, 1), 1);
        Check.same("cut(0, 0) without rows", x.cut(0, 0), 1);
        Check.same("breakAt(0) without rows", x.breakAt(0), -1);
    }

    private static void wrongBreaks() {
        SurrogateTree x = Trees.line(0, 1, 0);
        Trees.growWhole(x);
        for (int k : new int[] {-1, 1, 14, 15, 16, Integer.MIN_VALUE, Integer.MAX_VALUE}) {
            Check.same("breakAt(" + k + ")", x.breakAt(k), -1);
        }
    }

    private static void growingAfterACut() {
        SurrogateTree x = Trees.line(0, 1, 0);
        Trees.growWhole(x);
        x.cut(1, 1);
        Check.same("no node waits", x.grow(3), 0);
        Check.same("the cut tree is still shown", x.kind(1), 1);
        x.even();
        Check.same("anew, the growing tree is shown", x.kind(1), 0);
        x.grow(1);
        Check.same("its root is split", x.kind(1), 2);
    }
}
