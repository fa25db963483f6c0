/** Promises 9, 10 and 11, where they are about the split itself: rule, threshold and gain. */
public final class SplitTest {
    private static final int NONE = Trees.NONE;

    public static void main(String[] args) {
        criteria();
        onlyPresentRowsCount();
        equalGains();
        greaterGainOfAGreaterFeature();
        thresholdsAreRoundedDown();
        leafSizeIsAWeight();
        noGainNoSplit();
        nothingToTell();
        Check.end();
    }

    private static void split(SurrogateTree x, String what, int feature, int threshold, long gain) {
        Check.same(what + ": kind", x.kind(1), 2);
        Check.same(what + ": rule", x.rule(1, 0), feature);
        Check.same(what + ": threshold", x.threshold(1, 0), threshold);
        Check.same(what + ": gain", x.gain(1), gain);
    }

    /** Classes 0 0 1 | 1 2: each criterion's gain by hand, for the split it chooses. */
    private static void criteria() {
        SurrogateTree x = Trees.line(0, 0, 1, 1, 2);
        x.grow(1);
        // 4/2 + 5/3 - 9/5 = 28/15
        split(x, "criterion 0", 0, 1, 28 * 4096 + 15);
        x.begin(1, 4, 1);
        x.grow(1);
        // 2 + 2 - 2
        split(x, "criterion 1", 0, 1, 2 * 4096 + 1);
        x.begin(2, 4, 1);
        x.grow(1);
        // S = 6 + 4 + 2 = 12, 144 / (5 * 2 * 3)
        split(x, "criterion 2", 0, 1, 24 * 4096 + 5);
    }

    /** The row that is missing at feature 0 is in neither side, and so not in N. */
    private static void onlyPresentRowsCount() {
        SurrogateTree x = new SurrogateTree();
        x.addRow(0, NONE, NONE, 0);
        x.addRow(1, NONE, NONE, 1);
        x.addRow(NONE, NONE, NONE, 0);
        x.grow(1);
        split(x, "present rows", 0, 0, 4096 + 1);
    }

    private static void equalGains() {
        SurrogateTree x = new SurrogateTree();
        x.addRow(NONE, 0, 0, 0);
        x.addRow(NONE, 2, 2, 1);
        x.addRow(NONE, 4, 4, 0);
        x.grow(1);
        // 1 + 2/2 - 5/3 on both sides of the middle row, at both features
        split(x, "the least feature, then the least threshold", 1, 1, 4096 + 3);
    }

    private static void greaterGainOfAGreaterFeature() {
        SurrogateTree x = new SurrogateTree();
        x.addRow(0, 0, 5, 0);
        x.addRow(1, 2, 5, 0);
        x.addRow(0, 1, 8, 1);
        x.addRow(1, 3, 9, 1);
        x.grow(1);
        split(x, "the greatest gain", 2, 6, 2 * 4096 + 1);
    }

    private static void thresholdsAreRoundedDown() {
        threshold(-3, 0, -2);
        threshold(-1, 0, -1);
        threshold(0, 1, 0);
        threshold(-4, -1, -3);
        threshold(7, 10, 8);
        threshold(-2147483647, 2147483647, 0);
        threshold(-2147483647, 2147483646, -1);
        threshold(2147483646, 2147483647, 2147483646);
        threshold(-2147483647, -2147483646, -2147483647);
    }

    private static void threshold(int low, int high, int due) {
        SurrogateTree x = new SurrogateTree();
        x.addRow(high, NONE, NONE, 0);
        x.addRow(low, NONE, NONE, 1);
        x.grow(1);
        Check.same("threshold between " + low + " and " + high, x.threshold(1, 0), due);
        Check.same("the lower row is left", x.rowsOf(2), 2);
        Check.same("the higher row is right", x.rowsOf(3), 1);
    }

    private static void leafSizeIsAWeight() {
        SurrogateTree x = Trees.line(0, 1, 1, 1);
        x.begin(0, 4, 2);
        x.grow(1);
        // 2/2 + 4/2 - 10/4
        split(x, "leaf size 2", 0, 1, 4096 + 2);
        x.begin(0, 4, 3);
        x.grow(1);
        Check.same("leaf size 3", x.kind(1), 1);
        SurrogateTree drawn = Trees.line(0, 1, 1, 1);
        drawn.begin(0, 4, 2);
        drawn.bag(6);
        drawn.grow(1);
        // weights 2, 0, 0, 2: one row on each side is enough
        split(drawn, "leaf size 2 of drawn rows", 0, 1, 2 * 4096 + 1);
    }

    private static void noGainNoSplit() {
        SurrogateTree x = Trees.line(1, 1, 1);
        x.grow(1);
        Check.same("one class", x.kind(1), 1);
        SurrogateTree same = new SurrogateTree();
        same.addRow(5, 5, NONE, 0);
        same.addRow(5, 5, 7, 1);
        same.grow(1);
        Check.same("no two values", same.kind(1), 1);
        SurrogateTree tie = Trees.line(0, 0, 1, 0);
        tie.begin(1, 4, 2);
        tie.grow(1);
        Check.same("a gain of 0", tie.kind(1), 1);
    }

    private static void nothingToTell() {
        SurrogateTree x = Trees.line(0, 1);
        told(x, 1, "a waiting node");
        Trees.growWhole(x);
        Check.same("rule(1, 0)", x.rule(1, 0), 0);
        told(x, 2, "a leaf");
        for (int k : new int[] {0, -1, 4, 31, 32, 33, Integer.MIN_VALUE, Integer.MAX_VALUE}) {
            told(x, k, "node " + k);
        }
        x.cut(1000, 1);
        told(x, 1, "a node that was cut");
        x.cut(0, 0);
        Check.same("gain(1) of the whole tree again", x.gain(1), 4096 + 1);
    }

    private static void told(SurrogateTree x, int k, String what) {
        for (int i = 0; i <= 2; i++) {
            Check.same(what + ": rule", x.rule(k, i), -1);
            Check.same(what + ": threshold", x.threshold(k, i), 0);
        }
        Check.same(what + ": gain", x.gain(k), 0);
    }
}
