/** The edges that the document names for cutting: terms, promises 16, 17. */
public final class CutEdgesTest {
    private static final int LOW = Integer.MIN_VALUE;
    private static final int HIGH = Integer.MAX_VALUE;

    /** The cut tree of this table has, as the fraction rises, 13, 11, 8, 4, 3, 2 and 1 leaves. */
    private static final int[][] SIX_BREAKS = {
        {2, 7, 6, 2}, {5, 5, 3, 2}, {6, 7, 2, 1}, {6, 1, 2, 3}, {6, 4, 2, 1}, {1, 3, 6, 3}, {7, 5, 5, 1}, {3, 1, 2, 2},
        {5, 4, 1, 0}, {4, 6, 5, 0}, {3, 1, 1, 3}, {4, 2, 3, 1}, {0, 5, 7, 0}, {7, 6, 2, 2}, {4, 4, 1, 3}, {7, 7, 5, 0}
    };

    public static void main(String[] args) {
        grownWhenNoNodeWaits();
        cutAtZero();
        lessThanItsOwnError();
        asMuchAsItsOwnError();
        fromTheBottomUp();
        allBelowIsGone();
        shownUntilItIsCut();
        alwaysTheGrownTree();
        breaksAreMoreThanZero();
        fewerLeavesThanAtEveryLesser();
        severalSplitsAtOneBreak();
        inIncreasingOrder();
        wholeIfQIsZero();
        numeratorAllTheSame();
        theEdgesOfFractions();
        countsTheLeaves();
        refusedIfANodeWaits();
        refusedOutsideZeroToThousand();
        breaksWhateverIsShown();
        breaksInLowestTerms();
        noSuchBreak();
        noBreakWhileANodeWaits();
        Check.end();
    }

    private static SurrogateTree grown(int... classes) {
        SurrogateTree x = Trees.line(classes);
        Trees.growWhole(x);
        return x;
    }

    private static SurrogateTree sixBreaks() {
        SurrogateTree x = Trees.table(SIX_BREAKS);
        Trees.growWhole(x);
        return x;
    }

    private static void grownWhenNoNodeWaits() {
        Check.sentence("Terms", "The tree is GROWN when no node waits.");
        SurrogateTree x = Trees.sixteenLeaves();
        for (int turn = 1; turn <= 31; turn++) {
            Check.same("cut before turn " + turn, x.cut(1, 1), -1);
            x.grow(1);
        }
        Check.same("cut after the last turn", x.cut(0, 0), 16);
    }

    /** The root's split saves no error: its children cost 1 + 0, as much as the root. */
    private static void cutAtZero() {
        Check.sentence("Terms", "Cut at a fraction A >= 0");
        SurrogateTree x = grown(0, 0, 1, 0, 0);
        x.begin(0, 1, 1);
        Trees.growWhole(x);
        Check.same("two leaves before", x.cut(0, 0), 2);
        Check.same("cut at 0", x.cut(0, 1), 1);
        Check.same("cut at 0/1000", x.cut(0, 1000), 1);
        SurrogateTree saving = grown(0, 1);
        Check.same("a split that saves an error stays at 0", saving.cut(0, 1), 2);
    }

    /** The root's error is 2, the leaves' is 0: split it costs 2A, as a leaf 2 + A. */
    private static void lessThanItsOwnError() {
        Check.sentence("Terms", "a split node whose children cost together less than its own error + A stays split");
        SurrogateTree x = grown(0, 0, 1, 1);
        Check.same("just below 2, at 999/500", x.cut(999, 500), 2);
        Check.same("kind(1)", x.kind(1), 2);
        Check.same("just below 2, at 501/251", x.cut(501, 251), 2);
    }

    private static void asMuchAsItsOwnError() {
        Check.sentence("Terms", "otherwise it becomes a leaf");
        SurrogateTree x = grown(0, 0, 1, 1);
        Check.same("at 2", x.cut(2, 1), 1);
        Check.same("at 1000/500", x.cut(1000, 500), 1);
        Check.same("kind(1)", x.kind(1), 1);
        Check.same("just above 2, at 503/251", x.cut(503, 251), 1);
        Check.same("at 1000", x.cut(1000, 1), 1);
    }

    /**
     * Classes 0 1 0: node 3 alone would stay split at 1/2, as it saves an error; the root, error 1,
     * costs three leaves, and does not. At 2/3 the root is judged with node 3 still split, at 1 with
     * node 3 as a leaf.
     */
    private static void fromTheBottomUp() {
        Check.sentence("Terms", "it is made so, from the bottom up: the COST of a leaf is its error + A");
        SurrogateTree x = grown(0, 1, 0);
        Check.same("at 49/100: 147/100 is less than 1 + 49/100", x.cut(49, 100), 3);
        Check.same("at 1/2: 3/2 is not less than 1 + 1/2", x.cut(1, 2), 1);
        Check.same("at 2/3", x.cut(2, 3), 1);
        Check.same("at 1", x.cut(1, 1), 1);
        SurrogateTree six = sixBreaks();
        Check.same("node 4's three leaves go at 1/2", six.cut(1, 2), 11);
        Check.same("node 4", six.kind(4), 1);
        Check.same("node 2 is judged with node 4 as a leaf: it stays at 74/100", six.cut(74, 100), 8);
        Check.same("and goes at 3/4", six.cut(3, 4), 4);
        Check.same("node 2", six.kind(2), 1);
    }

    private static void allBelowIsGone() {
        Check.sentence("Terms", "and all below it is gone");
        SurrogateTree x = Trees.sixteenLeaves();
        Trees.growWhole(x);
        Check.same("cut to the root", x.cut(1, 1), 1);
        Check.same("kind(1)", x.kind(1), 1);
        for (int k = 2; k <= 31; k++) {
            Check.same("kind(" + k + ")", x.kind(k), -1);
            Check.same("rowsOf(" + k + ")", x.rowsOf(k), -1);
        }
        Check.same("cut at 2/3", x.cut(2, 3), 4);
        for (int k = 1; k <= 31; k++) {
            Check.same("at 2/3, kind(" + k + ")", x.kind(k), k < 4 ? 2 : k < 8 ? 1 : -1);
        }
    }

    private static void shownUntilItIsCut() {
        Check.sentence("Terms", "The SHOWN tree is the one that is growing or grown, until cut() cuts the grown one");
        SurrogateTree x = Trees.line(0, 1, 0);
        Check.same("growing: kind(1)", x.kind(1), 0);
        x.cut(1, 1);
        Check.same("a refused cut shows nothing else", x.kind(1), 0);
        x.grow(1);
        Check.same("growing on: kind(1)", x.kind(1), 2);
        Trees.growWhole(x);
        Check.same("grown: kind(7)", x.kind(7), 1);
        x.cut(1, 1);
        Check.same("cut: kind(7)", x.kind(7), -1);
        Check.same("no turn is left", x.grow(3), 0);
        Check.same("still cut: kind(1)", x.kind(1), 1);
        x.even();
        Check.same("growing anew: kind(1)", x.kind(1), 0);
        Trees.growWhole(x);
        Check.same("grown anew, not cut: kind(7)", x.kind(7), 1);
    }

    private static void alwaysTheGrownTree() {
        Check.sentence("Terms", "cut() always cuts the grown tree, not what an earlier cut() left");
        SurrogateTree x = sixBreaks();
        Check.same("to one leaf", x.cut(1000, 1), 1);
        Check.same("back to 13", x.cut(0, 1), 13);
        Check.same("to 3", x.cut(1, 1), 3);
        Check.same("back to 8", x.cut(2, 3), 8);
        Check.same("back to 11", x.cut(1, 2), 11);
        Check.same("and to 3 again", x.cut(1, 1), 3);
        Check.same("node 28 is cut away", x.kind(28), -1);
        Check.same("to 13", x.cut(0, 1), 13);
        Check.same("node 28 is there again", x.kind(28), 1);
        Check.same("with its row", x.rowsOf(28), 1 << 12);
    }

    private static void breaksAreMoreThanZero() {
        Check.sentence("Terms", "BREAKS are the fractions A > 0");
        SurrogateTree x = grown(0, 0, 1, 0, 0);
        x.begin(0, 1, 1);
        Trees.growWhole(x);
        Check.same("the whole tree has two leaves", x.cut(0, 0), 2);
        Check.same("at 0 it has one", x.cut(0, 1), 1);
        Check.same("0 is no break", x.breakAt(0), -1);
        Check.same("a leaf alone has no break", grown(0, 0).breakAt(0), -1);
        SurrogateTree none = new SurrogateTree();
        none.grow(1);
        Check.same("nor has a tree without rows", none.breakAt(0), -1);
    }

    private static void fewerLeavesThanAtEveryLesser() {
        Check.sentence("Terms", "at which the cut tree has fewer leaves than at every lesser fraction from 0 on");
        SurrogateTree x = sixBreaks();
        int[][] justBelow = {{499, 999}, {665, 998}, {747, 997}, {998, 999}, {997, 499}, {997, 333}};
        int[] before = {13, 11, 8, 4, 3, 2};
        int[] at = {11, 8, 4, 3, 2, 1};
        for (int k = 0; k < 6; k++) {
            int found = x.breakAt(k);
            Check.same("just below break " + k, x.cut(justBelow[k][0], justBelow[k][1]), before[k]);
            Check.same("at break " + k, x.cut(found / 32, found % 32), at[k]);
        }
        Check.same("above the last break", x.cut(1000, 1), 1);
    }

    /** Four stretches of four rows: each of the three splits saves four errors for each leaf. */
    private static void severalSplitsAtOneBreak() {
        Check.sentence("Terms", "BREAKS are the fractions A > 0 at which the cut tree has fewer leaves");
        SurrogateTree x = grown(0, 0, 0, 0, 1, 1, 1, 1, 2, 2, 2, 2, 3, 3, 3, 3);
        Check.same("break 0", x.breakAt(0), 4 * 32 + 1);
        Check.same("there is no other", x.breakAt(1), -1);
        Check.same("just below it", x.cut(999, 250), 4);
        Check.same("at it", x.cut(4, 1), 1);
    }

    private static void inIncreasingOrder() {
        Check.sentence("Terms", "in increasing order they are 0, 1, ..");
        SurrogateTree x = sixBreaks();
        int[][] due = {{1, 2}, {2, 3}, {3, 4}, {1, 1}, {2, 1}, {3, 1}};
        for (int k = 0; k < 6; k++) {
            Check.same("breakAt(" + k + ")", x.breakAt(k), due[k][0] * 32 + due[k][1]);
        }
        Check.same("breakAt(6)", x.breakAt(6), -1);
        Check.same("asked out of order", x.breakAt(2), 3 * 32 + 4);
    }

    private static void wholeIfQIsZero() {
        Check.sentence("Promise 16", "If q is 0, the whole grown tree is shown again");
        SurrogateTree x = grown(0, 0, 1, 0, 0);
        Check.same("whole, before it was ever cut", x.cut(0, 0), 3);
        Check.same("cut at 0", x.cut(0, 1), 3);
        Check.same("cut to one leaf", x.cut(1, 1), 1);
        Check.same("whole again", x.cut(0, 0), 3);
        Check.same("and once more", x.cut(0, 0), 3);
        SurrogateTree useless = grown(0, 0, 1, 0, 0);
        useless.begin(0, 1, 1);
        Trees.growWhole(useless);
        useless.cut(0, 1);
        Check.same("a split that is cut at 0 is shown too", useless.cut(0, 0), 2);
    }

    private static void numeratorAllTheSame() {
        Check.sentence("Promise 16", "p must be 0 .. 1000 all the same");
        SurrogateTree x = grown(0, 1);
        x.cut(1000, 1);
        for (int p : new int[] {-1, 1001, LOW, HIGH}) {
            Check.same("cut(" + p + ", 0)", x.cut(p, 0), -1);
            Check.same("the cut tree is still shown", x.kind(1), 1);
        }
        Check.same("cut(1000, 0)", x.cut(1000, 0), 2);
        Check.same("the whole tree is shown", x.kind(1), 2);
        x.cut(1000, 1);
        Check.same("cut(500, 0)", x.cut(500, 0), 2);
    }

    private static void theEdgesOfFractions() {
        Check.sentence("Promise 16", "otherwise it is cut at p / q");
        SurrogateTree x = grown(0, 1);
        Check.same("cut(0, 1)", x.cut(0, 1), 2);
        Check.same("cut(0, 1000)", x.cut(0, 1000), 2);
        Check.same("cut(1, 1000)", x.cut(1, 1000), 2);
        Check.same("cut(999, 1000)", x.cut(999, 1000), 2);
        Check.same("cut(1000, 1000)", x.cut(1000, 1000), 1);
        Check.same("cut(1000, 999)", x.cut(1000, 999), 1);
        Check.same("cut(1, 1)", x.cut(1, 1), 1);
        Check.same("cut(1000, 1)", x.cut(1000, 1), 1);
    }

    private static void countsTheLeaves() {
        Check.sentence("Promise 16", "Answers how many leaves the shown tree has then");
        SurrogateTree none = new SurrogateTree();
        none.grow(1);
        Check.same("a root without rows", none.cut(1, 1), 1);
        SurrogateTree full = Trees.sixteenLeaves();
        Trees.growWhole(full);
        Check.same("sixteen", full.cut(0, 0), 16);
        Check.same("sixteen at 0", full.cut(0, 1), 16);
        Check.same("four at 2/3", full.cut(2, 3), 4);
        Check.same("one at 1", full.cut(1, 1), 1);
    }

    private static void refusedIfANodeWaits() {
        Check.sentence("Promise 16", "-1 (refused) if a node waits");
        SurrogateTree x = new SurrogateTree();
        Check.same("a new object, cut(0, 0)", x.cut(0, 0), -1);
        Check.same("a new object, cut(1, 2)", x.cut(1, 2), -1);
        SurrogateTree one = Trees.line(0, 1);
        one.grow(2);
        Check.same("one child of two waits", one.cut(0, 1), -1);
        one.grow(1);
        Check.same("none waits", one.cut(0, 1), 2);
        one.bag(1);
        Check.same("after bag", one.cut(0, 0), -1);
        one.grow(3);
        one.begin(0, 4, 1);
        Check.same("after begin", one.cut(0, 0), -1);
        one.grow(3);
        one.addRow(1, 1, 1, 1);
        Check.same("after addRow", one.cut(0, 0), -1);
    }

    private static void refusedOutsideZeroToThousand() {
        Check.sentence("Promise 16", "or p or q is not 0 .. 1000");
        SurrogateTree x = grown(0, 1);
        for (int wrong : new int[] {-1, 1001, -1000, LOW, HIGH}) {
            Check.same("cut(" + wrong + ", 1)", x.cut(wrong, 1), -1);
            Check.same("cut(1, " + wrong + ")", x.cut(1, wrong), -1);
            Check.same("cut(" + wrong + ", " + wrong + ")", x.cut(wrong, wrong), -1);
            Check.same("the whole tree is still shown", x.kind(1), 2);
        }
    }

    private static void breaksWhateverIsShown() {
        Check.sentence("Promise 17", "Break k of the grown tree (whatever is shown)");
        SurrogateTree x = sixBreaks();
        x.cut(1000, 1);
        Check.same("one leaf is shown, break 0", x.breakAt(0), 32 + 2);
        Check.same("one leaf is shown, break 5", x.breakAt(5), 3 * 32 + 1);
        Check.same("one leaf is shown still", x.kind(1), 1);
        x.cut(1, 1);
        Check.same("three leaves are shown, break 1", x.breakAt(1), 2 * 32 + 3);
        Check.same("three leaves are shown still", x.kind(2), 1);
        Check.same("three leaves are shown still", x.kind(3), 2);
        x.cut(0, 0);
        Check.same("the whole tree is shown, break 2", x.breakAt(2), 3 * 32 + 4);
        Check.same("it is shown still", x.kind(28), 1);
    }

    /** In the tree of sixteen leaves nodes 8 to 15 have error 1, 4 to 7 error 2, 2 and 3 error 5, 1 error 11. */
    private static void breaksInLowestTerms() {
        Check.sentence("Promise 17", "in lowest terms: numerator * 32 + denominator");
        SurrogateTree full = Trees.sixteenLeaves();
        Trees.growWhole(full);
        Check.same("nodes 4 to 7 save two errors with three leaves", full.breakAt(0), 2 * 32 + 3);
        // then node 2 saves 5 - 4 with one leaf more, the root 11 - 8 with three
        Check.same("the root saves three errors with three leaves: 1/1", full.breakAt(1), 32 + 1);
        Check.same("there is no other", full.breakAt(2), -1);
        Check.same("one error with one leaf", grown(0, 1).breakAt(0), 32 + 1);
        Check.same("eight errors with one leaf",
            grown(0, 0, 0, 0, 0, 0, 0, 0, 1, 1, 1, 1, 1, 1, 1, 1).breakAt(0), 8 * 32 + 1);
        SurrogateTree ten = Trees.line(1, 0, 0, 1, 3, 2, 0, 0, 3, 1, 2, 2, 1, 0, 0, 2);
        ten.begin(2, 4, 1);
        Trees.growWhole(ten);
        Check.same("nine errors with ten leaves", ten.breakAt(0), 9 * 32 + 10);
    }

    private static void noSuchBreak() {
        Check.sentence("Promise 17", "-1 if there is no such break");
        SurrogateTree x = sixBreaks();
        for (int k : new int[] {-1, 6, 7, 14, 15, 16, 31, 32, LOW, HIGH}) {
            Check.same("breakAt(" + k + ")", x.breakAt(k), -1);
        }
        Check.same("breakAt(5)", x.breakAt(5), 3 * 32 + 1);
    }

    private static void noBreakWhileANodeWaits() {
        Check.sentence("Promise 17", "or a node waits");
        SurrogateTree x = Trees.line(0, 1);
        Check.same("the root waits", x.breakAt(0), -1);
        x.grow(2);
        Check.same("one child waits", x.breakAt(0), -1);
        x.grow(1);
        Check.same("none waits", x.breakAt(0), 32 + 1);
        x.even();
        Check.same("growing anew", x.breakAt(0), -1);
        Check.same("a new object", new SurrogateTree().breakAt(0), -1);
    }
}
