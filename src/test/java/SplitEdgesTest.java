/** The edges that the document names for splits and gains: terms, promises 9, 10, 11. */
public final class SplitEdgesTest {
    private static final int NONE = Trees.NONE;
    private static final int LOW = Integer.MIN_VALUE;
    private static final int HIGH = Integer.MAX_VALUE;

    public static void main(String[] args) {
        theLeastGainOfAll();
        theGreatestGain();
        amongEqualsTheLeastFeature();
        amongEqualsTheLeastThreshold();
        roundedTowardsMinusInfinity();
        exactBeforeItIsRounded();
        noRowOfTheNodeBetween();
        equalValuesMakeNoThreshold();
        upToTheThresholdIsLeft();
        onlyPresentRowsAreLeftOrRight();
        atLeastTheLeafSize();
        leafSizeOnTheLeft();
        leafSizeOnTheRight();
        leafSizeIsAboutWeight();
        leafSizeIsAboutPresentRows();
        squares();
        majorities();
        distances();
        ruleOfNoSplitNode();
        ruleOutsideZeroToTwo();
        thresholdWithoutRule();
        gainInLowestTerms();
        gainOfNoSplitNode();
        Check.end();
    }

    /**
     * A table with two splits alone: at feature 0 and at feature 1 the first so many rows of each
     * class have the value 0, the others 1.
     */
    private static SurrogateTree twoSplits(int[] rows, int[] leftAt0, int[] leftAt1) {
        SurrogateTree x = new SurrogateTree();
        for (int c = 0; c < 4; c++) {
            for (int i = 0; i < rows[c]; i++) {
                x.addRow(i < leftAt0[c] ? 0 : 1, i < leftAt1[c] ? 0 : 1, NONE, c);
            }
        }
        return x;
    }

    private static void root(String what, SurrogateTree x, int feature, int threshold, long gain) {
        Check.same(what + ": kind(1)", x.kind(1), 2);
        Check.same(what + ": rule(1, 0)", x.rule(1, 0), feature);
        Check.same(what + ": threshold(1, 0)", x.threshold(1, 0), threshold);
        Check.same(what + ": gain(1)", x.gain(1), gain);
    }

    /** Of all tables of sixteen rows none has a lesser gain, but 0, than nine rows and seven: 1/504. */
    private static void theLeastGainOfAll() {
        Check.sentence("Terms", "it has no split whose gain is more than 0");
        int[] rows = {9, 7, 0, 0};
        int[] left = {4, 3, 0, 0};
        int[] all = {9, 7, 0, 0};
        SurrogateTree x = twoSplits(rows, left, all);
        x.grow(1);
        root("criterion 0", x, 0, 0, 4096 + 504);
        x.begin(2, 4, 1);
        x.grow(1);
        root("criterion 2", x, 0, 0, 4096 + 252);
        x.begin(1, 4, 1);
        x.grow(1);
        Check.same("criterion 1: 4 + 5 - 9 is 0", x.kind(1), 1);
    }

    /** No two gains of a table of sixteen rows lie closer together than 493/440 and 565/504. */
    private static void theGreatestGain() {
        Check.sentence("Terms", "it is split by its best split, the one with the greatest gain");
        int[] rows = {6, 5, 3, 2};
        int[] lesser = {1, 3, 0, 1};
        int[] greater = {1, 2, 2, 2};
        SurrogateTree first = twoSplits(rows, greater, lesser);
        first.grow(1);
        root("the greater gain at feature 0", first, 0, 0, 565 * 4096 + 504);
        SurrogateTree second = twoSplits(rows, lesser, greater);
        second.grow(1);
        root("the greater gain at feature 1", second, 1, 0, 565 * 4096 + 504);
    }

    /** Both gains are 19/15, but sums of rounded quotients differ, in one order or the other. */
    private static void amongEqualsTheLeastFeature() {
        Check.sentence("Terms", "among equals the least feature");
        int[] rows = {4, 4, 1, 1};
        int[] one = {0, 0, 0, 1};
        int[] seven = {4, 2, 1, 0};
        SurrogateTree first = twoSplits(rows, one, seven);
        first.grow(1);
        root("one row is left at feature 0", first, 0, 0, 19 * 4096 + 15);
        Check.same("that row", first.rowsOf(2), 1 << 9);
        SurrogateTree second = twoSplits(rows, seven, one);
        second.grow(1);
        root("seven rows are left at feature 0", second, 0, 0, 19 * 4096 + 15);
        Check.same("the other three", Integer.bitCount(second.rowsOf(3)), 3);
        SurrogateTree third = Trees.table(new int[] {NONE, 9, 1, 0}, new int[] {NONE, 7, 5, 1});
        third.grow(1);
        root("feature 1 before feature 2", third, 1, 8, 4096 + 1);
    }

    private static void amongEqualsTheLeastThreshold() {
        Check.sentence("Terms", "then the least threshold");
        SurrogateTree x = Trees.line(0, 1, 0);
        for (int criterion = 0; criterion <= 2; criterion++) {
            x.begin(criterion, 4, 1);
            x.grow(1);
            Check.same("criterion " + criterion + ", of the thresholds 0 and 1", x.threshold(1, 0), 0);
        }
        // the rows in the other order, with values below 0
        SurrogateTree back = Trees.table(
            new int[] {-10, NONE, NONE, 0}, new int[] {-20, NONE, NONE, 1}, new int[] {-30, NONE, NONE, 0});
        back.grow(1);
        Check.same("of the thresholds -25 and -15", back.threshold(1, 0), -25);
    }

    private static void between(int low, int high, int due) {
        SurrogateTree x = Trees.table(new int[] {NONE, high, NONE, 0}, new int[] {NONE, low, NONE, 1});
        x.grow(1);
        Check.same("threshold between " + low + " and " + high, x.threshold(1, 0), due);
        Check.same("the left row", x.rowsOf(2), 2);
        Check.same("the right row", x.rowsOf(3), 1);
    }

    private static void roundedTowardsMinusInfinity() {
        Check.sentence("Terms", "t is (a + b) / 2, exact and then rounded towards minus infinity");
        between(3, 4, 3);
        between(0, 1, 0);
        between(-1, 0, -1);
        between(-2, -1, -2);
        between(-2, 1, -1);
        between(-1, 2, 0);
        between(-3, 2, -1);
        between(-4, 2, -1);
        between(LOW + 1, 0, -1073741824);
        between(0, HIGH, 1073741823);
    }

    private static void exactBeforeItIsRounded() {
        Check.sentence("Terms", "t is (a + b) / 2, exact and then rounded towards minus infinity");
        between(HIGH - 1, HIGH, HIGH - 1);
        between(HIGH - 2, HIGH, HIGH - 1);
        between(1 << 30, HIGH, 1610612735);
        between(LOW + 1, LOW + 2, LOW + 1);
        between(LOW + 1, LOW + 3, LOW + 2);
        between(LOW + 1, -(1 << 30) - 1, -1610612736);
        between(LOW + 1, HIGH, 0);
        between(LOW + 1, HIGH - 1, -1);
        between(LOW + 2, HIGH, 0);
    }

    /** The root is split at feature 0; at feature 1 node 2 has 0 and 10, node 3 has 4 and 8. */
    private static void noRowOfTheNodeBetween() {
        Check.sentence("Terms", "a < b are values that rows of the node have at f and no row of the node has one between them");
        SurrogateTree x = Trees.table(
            new int[] {0, 0, NONE, 0}, new int[] {0, 10, NONE, 1}, new int[] {9, 4, NONE, 2}, new int[] {9, 8, NONE, 3});
        x.grow(3);
        root("the root", x, 0, 4, 4096 + 1);
        Check.same("rule(2, 0)", x.rule(2, 0), 1);
        Check.same("threshold(2, 0): other nodes' rows do not count", x.threshold(2, 0), 5);
        Check.same("rule(3, 0)", x.rule(3, 0), 1);
        Check.same("threshold(3, 0)", x.threshold(3, 0), 6);
    }

    private static void equalValuesMakeNoThreshold() {
        Check.sentence("Terms", "a < b are values that rows of the node have at f");
        SurrogateTree x = Trees.table(
            new int[] {5, NONE, NONE, 0}, new int[] {5, NONE, NONE, 0}, new int[] {5, NONE, NONE, 1},
            new int[] {9, NONE, NONE, 1});
        x.grow(3);
        // 5/3 + 1 - 8/4
        root("three rows have the value 5", x, 0, 7, 2 * 4096 + 3);
        Check.same("they cannot be parted", x.kind(2), 1);
        Check.same("their error", x.error(2), 1);
    }

    private static void upToTheThresholdIsLeft() {
        Check.sentence("Terms", "those with a value <= t are its left rows, the others its right rows");
        SurrogateTree x = Trees.line(0, 1);
        x.grow(1);
        Check.same("the threshold is the lesser value", x.threshold(1, 0), 0);
        Check.same("the row with that value is left", x.rowsOf(2), 1);
        Check.same("reach of the threshold", x.reach(0, NONE, NONE), 2);
        Check.same("reach of one more", x.reach(1, NONE, NONE), 3);
        Check.same("reach of the least value", x.reach(LOW + 1, NONE, NONE), 2);
        Check.same("reach of the greatest value", x.reach(HIGH, NONE, NONE), 3);
    }

    private static void onlyPresentRowsAreLeftOrRight() {
        Check.sentence("Terms", "Of the node's rows that are present at f");
        SurrogateTree x = Trees.table(
            new int[] {1, NONE, NONE, 0}, new int[] {2, NONE, NONE, 1}, new int[] {NONE, NONE, NONE, 2},
            new int[] {NONE, NONE, NONE, 2}, new int[] {NONE, NONE, NONE, 0});
        x.grow(1);
        // 1/1 + 1/1 - 2/2: N is 2
        root("two rows of five are present", x, 0, 1, 4096 + 1);
    }

    /** Of 2s rows the first s are of class 0, the others of class 1; by criterion 0 s/1 is the gain. */
    private static void atLeastTheLeafSize() {
        Check.sentence("Terms", "the weight of each of the two must be at least the LEAF SIZE");
        for (int s = 1; s <= 8; s++) {
            SurrogateTree x = new SurrogateTree();
            for (int i = 0; i < 2 * s; i++) {
                x.addRow(i, NONE, NONE, i < s ? 0 : 1);
            }
            x.begin(0, 4, s);
            x.grow(1);
            root("sides as heavy as the leaf size " + s, x, 0, s - 1, s * 4096 + 1);
            if (s < 8) {
                x.begin(0, 4, s + 1);
                x.grow(1);
                Check.same("sides of " + s + ", one less than the leaf size", x.kind(1), 1);
            }
        }
    }

    private static void leafSizeOnTheLeft() {
        Check.sentence("Terms", "the weight of each of the two must be at least the LEAF SIZE");
        SurrogateTree x = Trees.line(0, 1, 1, 1, 1);
        x.begin(0, 4, 2);
        x.grow(1);
        // 2/2 + 9/3 - 17/5; the better split would leave one row on the left
        root("two rows at least are left", x, 0, 1, 3 * 4096 + 5);
    }

    private static void leafSizeOnTheRight() {
        Check.sentence("Terms", "the weight of each of the two must be at least the LEAF SIZE");
        SurrogateTree x = Trees.line(1, 1, 1, 1, 0);
        x.begin(0, 4, 2);
        x.grow(1);
        // 9/3 + 2/2 - 17/5; the better split would leave one row on the right
        root("two rows at least are right", x, 0, 2, 3 * 4096 + 5);
    }

    /** bag(0) gives four rows the weights 1, 1, 2, 0. */
    private static void leafSizeIsAboutWeight() {
        Check.sentence("Terms", "the weight of each of the two must be at least the LEAF SIZE");
        SurrogateTree x = Trees.line(0, 0, 1, 1);
        x.begin(0, 4, 2);
        x.bag(0);
        x.grow(1);
        root("one row of weight 2 is enough", x, 0, 1, 2 * 4096 + 1);
        x.begin(0, 4, 3);
        x.grow(1);
        Check.same("a weight of 2 is less than the leaf size 3", x.kind(1), 1);
    }

    private static void leafSizeIsAboutPresentRows() {
        Check.sentence("Terms", "the weight of each of the two must be at least the LEAF SIZE");
        SurrogateTree x = Trees.table(
            new int[] {1, NONE, NONE, 0}, new int[] {2, NONE, NONE, 1}, new int[] {NONE, NONE, NONE, 0},
            new int[] {NONE, NONE, NONE, 0}, new int[] {NONE, NONE, NONE, 1});
        x.begin(0, 4, 2);
        x.grow(1);
        Check.same("rows that are not present count on neither side", x.kind(1), 1);
        x.begin(0, 4, 1);
        x.grow(1);
        Check.same("leaf size 1", x.kind(1), 2);
    }

    private static void squares() {
        Check.sentence("Terms", "0: (sum of l(c) * l(c)) / L + (sum of r(c) * r(c)) / R");
        SurrogateTree least = Trees.line(0, 1);
        least.grow(1);
        root("one row on each side: 1 + 1 - 2/2", least, 0, 0, 4096 + 1);
        SurrogateTree most = Trees.line(0, 0, 0, 0, 0, 0, 0, 0, 1, 1, 1, 1, 1, 1, 1, 1);
        most.grow(1);
        root("eight rows on each side: 8 + 8 - 128/16", most, 0, 7, 8 * 4096 + 1);
        SurrogateTree four = Trees.line(0, 1, 2, 3);
        four.grow(1);
        root("four classes: 1 + 3/3 - 4/4, and so at every threshold", four, 0, 0, 4096 + 1);
    }

    private static void majorities() {
        Check.sentence("Terms", "1: (the greatest l(c)) + (the greatest r(c)) - (the greatest l(c) + r(c))");
        SurrogateTree most = Trees.line(0, 0, 0, 0, 0, 0, 0, 0, 1, 1, 1, 1, 1, 1, 1, 1);
        most.begin(1, 4, 1);
        most.grow(1);
        root("8 + 8 - 8", most, 0, 7, 8 * 4096 + 1);
        SurrogateTree sum = Trees.line(0, 0, 1, 1, 2, 2, 0);
        sum.begin(1, 4, 1);
        sum.grow(1);
        // the greatest sum is class 0's, 3, though neither side's greatest makes it: 2 + 2 - 3
        root("2 + 2 - 3", sum, 0, 1, 4096 + 1);
    }

    private static void distances() {
        Check.sentence("Terms", "2: S * S / (N * L * R), where S is the sum of |l(c) * R - r(c) * L|");
        SurrogateTree least = Trees.line(0, 1);
        least.begin(2, 4, 1);
        least.grow(1);
        root("S is 2: 4 / 2", least, 0, 0, 2 * 4096 + 1);
        SurrogateTree most = Trees.line(0, 0, 0, 0, 0, 0, 0, 0, 1, 1, 1, 1, 1, 1, 1, 1);
        most.begin(2, 4, 1);
        most.grow(1);
        root("S is 128: 16384 / 1024", most, 0, 7, 16 * 4096 + 1);
        SurrogateTree mirrored = Trees.line(1, 1, 1, 1, 1, 1, 1, 1, 0, 0, 0, 0, 0, 0, 0, 0);
        mirrored.begin(2, 4, 1);
        mirrored.grow(1);
        root("the differences are taken without their signs", mirrored, 0, 7, 16 * 4096 + 1);
    }

    private static void ruleOfNoSplitNode() {
        Check.sentence("Promise 9", "-1 if there is no such node");
        SurrogateTree x = Trees.line(0, 1, 0);
        Check.same("a waiting root", x.rule(1, 0), -1);
        Trees.growWhole(x);
        Check.same("a split root", x.rule(1, 0), 0);
        Check.same("a leaf", x.rule(2, 0), -1);
        for (int k : new int[] {0, -1, 4, 5, 8, 31, 32, 33, 64, LOW, HIGH}) {
            Check.same("node " + k, x.rule(k, 0), -1);
        }
        x.cut(1, 1);
        Check.same("a root that was cut", x.rule(1, 0), -1);
        Check.same("a split node below it", x.rule(3, 0), -1);
        x.cut(0, 0);
        Check.same("the split node, shown again", x.rule(3, 0), 0);
        Check.same("a new object", new SurrogateTree().rule(1, 0), -1);
    }

    private static void ruleOutsideZeroToTwo() {
        Check.sentence("Promise 9", "or i is not 0 .. 2");
        SurrogateTree x = Trees.table(new int[] {1, 1, 1, 0}, new int[] {2, 2, 2, 1});
        x.grow(1);
        Check.same("rule(1, 0)", x.rule(1, 0), 0);
        Check.same("rule(1, 1)", x.rule(1, 1), 1 + 8 * 2);
        Check.same("rule(1, 2)", x.rule(1, 2), 2 + 8 * 2);
        for (int i : new int[] {-1, 3, -2, 4, LOW, HIGH}) {
            Check.same("rule(1, " + i + ")", x.rule(1, i), -1);
        }
    }

    private static void thresholdWithoutRule() {
        Check.sentence("Promise 10", "0 where that is -1");
        SurrogateTree x = Trees.table(new int[] {7, 7, NONE, 0}, new int[] {9, 9, NONE, 1});
        Check.same("a waiting root", x.threshold(1, 0), 0);
        x.grow(3);
        Check.same("threshold(1, 0)", x.threshold(1, 0), 8);
        Check.same("threshold(1, 1)", x.threshold(1, 1), 8);
        Check.same("no second stand-in", x.threshold(1, 2), 0);
        for (int i : new int[] {-1, 3, LOW, HIGH}) {
            Check.same("threshold(1, " + i + ")", x.threshold(1, i), 0);
        }
        for (int k : new int[] {0, -1, 2, 3, 4, 31, 32, 33, LOW, HIGH}) {
            Check.same("threshold(" + k + ", 0)", x.threshold(k, 0), 0);
            Check.same("threshold(" + k + ", 1)", x.threshold(k, 1), 0);
        }
        x.cut(1, 1);
        Check.same("a root that was cut", x.threshold(1, 0), 0);
    }

    private static void gainInLowestTerms() {
        Check.sentence("Promise 11", "the gain of its split in lowest terms: numerator * 4096 + denominator");
        SurrogateTree whole = Trees.line(0, 0, 1, 1);
        whole.grow(1);
        // 4/2 + 4/2 - 8/4
        Check.same("a whole number", whole.gain(1), 2 * 4096 + 1);
        SurrogateTree half = Trees.line(0, 1, 1, 1);
        half.begin(0, 4, 2);
        half.grow(1);
        // 1 + 2 - 10/4
        Check.same("a half", half.gain(1), 4096 + 2);
        SurrogateTree third = Trees.line(0, 1, 0);
        third.grow(1);
        // 1 + 1 - 5/3
        Check.same("a third", third.gain(1), 4096 + 3);
    }

    private static void gainOfNoSplitNode() {
        Check.sentence("Promise 11", "0 if there is no such node");
        SurrogateTree x = Trees.line(0, 1, 0);
        Check.same("a waiting root", x.gain(1), 0);
        Trees.growWhole(x);
        Check.same("a leaf", x.gain(2), 0);
        Check.same("a split node", x.gain(3), 4096 + 1);
        for (int k : new int[] {0, -1, 4, 5, 8, 31, 32, 33, 64, LOW, HIGH}) {
            Check.same("node " + k, x.gain(k), 0);
        }
        x.cut(1, 1);
        Check.same("a split node that was cut away", x.gain(3), 0);
        Check.same("a root that was cut", x.gain(1), 0);
        Check.same("a new object", new SurrogateTree().gain(1), 0);
    }
}
