/** The edges that the document names for stand-ins and the way down: terms, promises 9, 10, 15. */
public final class StandInEdgesTest {
    private static final int NONE = Trees.NONE;
    private static final int LOW = Integer.MIN_VALUE;
    private static final int HIGH = Integer.MAX_VALUE;

    public static void main(String[] args) {
        noBothRows();
        bothRowsOnOneSide();
        oneBothRowOnEachSide();
        thresholdsAreRoundedDown();
        thresholdsDoNotWrap();
        thresholdsOfBothRowsAlone();
        leafSizeHasNoPart();
        upToTheThreshold();
        turnedTheOtherWayRound();
        agreementIsWeight();
        theGreatestAgreementThereIs();
        amongEqualsTheLeastThreshold();
        asMuchAsTheLeft();
        asMuchAsTheRight();
        oneMoreThanTheHeavierSide();
        upToTwoStandIns();
        theGreaterAgreementIsFirst();
        amongEqualsTheLesserFeature();
        presentRowsAskNoStandIn();
        theFirstWhereItIsPresent();
        equalSidesGoLeft();
        aHeavierRightSide();
        childrenHaveTheRowsThatGoThere();
        ruleOfNoSuchStandIn();
        reachOfAWaitingRoot();
        reachEndsWhereTheRowsAre();
        reachOfAnyInts();
        Check.end();
    }

    private static SurrogateTree grown(int[]... rows) {
        SurrogateTree x = Trees.table(rows);
        x.grow(1);
        return x;
    }

    /** The root's split at this feature, then up to two stand-ins, each told by rule and threshold. */
    private static void root(String what, SurrogateTree x, int feature, int... standIns) {
        Check.same(what + ": rule(1, 0)", x.rule(1, 0), feature);
        for (int i = 1; i <= 2; i++) {
            boolean due = 2 * i <= standIns.length;
            Check.same(what + ": rule(1, " + i + ")", x.rule(1, i), due ? standIns[2 * i - 2] : -1);
            Check.same(what + ": threshold(1, " + i + ")", x.threshold(1, i), due ? standIns[2 * i - 1] : 0);
        }
    }

    private static void noBothRows() {
        Check.sentence("Terms", "BOTH-ROWS: the node's rows that are present at f and at g");
        SurrogateTree x = grown(
            new int[] {1, NONE, NONE, 0}, new int[] {2, NONE, NONE, 1}, new int[] {NONE, 5, NONE, 0},
            new int[] {NONE, 6, NONE, 0});
        root("no row is present at 0 and 1, none at all at 2", x, 0);
    }

    private static void bothRowsOnOneSide() {
        Check.sentence("Terms", "BOTH-ROWS: the node's rows that are present at f and at g");
        SurrogateTree x = grown(
            new int[] {1, 5, NONE, 0}, new int[] {2, 6, NONE, 0}, new int[] {3, NONE, 7, 1}, new int[] {4, NONE, 8, 1});
        root("feature 1 on the left alone, feature 2 on the right alone", x, 0);
    }

    private static void oneBothRowOnEachSide() {
        Check.sentence("Terms", "BOTH-ROWS: the node's rows that are present at f and at g");
        SurrogateTree x = grown(
            new int[] {1, 9, 3, 0}, new int[] {2, NONE, NONE, 0}, new int[] {3, NONE, NONE, 1}, new int[] {4, 4, 4, 1});
        root("one row on each side is enough", x, 0, 1 + 4 + 8 * 2, 6, 2 + 8 * 2, 3);
    }

    private static void thresholdsAreRoundedDown() {
        Check.sentence("Terms", "a threshold u, made from the values of the both-rows at g as t is made above");
        root("-1 and 0, -2 and -1", grown(new int[] {1, -1, -2, 0}, new int[] {2, 0, -1, 1}), 0,
            1 + 8 * 2, -1, 2 + 8 * 2, -2);
        root("-3 and 0, 4 and 7", grown(new int[] {1, 0, 4, 0}, new int[] {2, -3, 7, 1}), 0,
            1 + 4 + 8 * 2, -2, 2 + 8 * 2, 5);
    }

    private static void thresholdsDoNotWrap() {
        Check.sentence("Terms", "a threshold u, made from the values of the both-rows at g as t is made above");
        root("the greatest values, the least values",
            grown(new int[] {1, HIGH - 1, LOW + 1, 0}, new int[] {2, HIGH, LOW + 2, 1}), 0,
            1 + 8 * 2, HIGH - 1, 2 + 8 * 2, LOW + 1);
        root("from the least to the greatest value",
            grown(new int[] {1, HIGH, LOW + 1, 0}, new int[] {2, LOW + 1, HIGH - 1, 1}), 0,
            1 + 4 + 8 * 2, 0, 2 + 8 * 2, -1);
    }

    /** The value 14 is that of a row without a value at feature 0. */
    private static void thresholdsOfBothRowsAlone() {
        Check.sentence("Terms", "made from the values of the both-rows at g");
        SurrogateTree x = grown(
            new int[] {1, 10, NONE, 0}, new int[] {2, 10, NONE, 0}, new int[] {8, 20, NONE, 1}, new int[] {9, 20, NONE, 1},
            new int[] {NONE, 14, NONE, 2});
        root("between 10 and 20", x, 0, 1 + 8 * 4, 15);
    }

    private static void leafSizeHasNoPart() {
        Check.sentence("Terms", "the leaf size has no part in it");
        int[][] rows = new int[16][];
        for (int i = 0; i < 16; i++) {
            rows[i] = new int[] {i, i == 0 || i == 15 ? i : NONE, NONE, i / 8};
        }
        SurrogateTree x = Trees.table(rows);
        x.begin(0, 4, 8);
        x.grow(1);
        root("leaf size 8, and one both-row on each side", x, 0, 1 + 8 * 2, 7);
    }

    private static void upToTheThreshold() {
        Check.sentence("Terms", "It sends a row that is present at g to the left if its value there is <= u, else to the right");
        SurrogateTree x = grown(new int[] {1, 5, NONE, 0}, new int[] {2, 6, NONE, 1});
        root("between 5 and 6", x, 0, 1 + 8 * 2, 5);
        Check.same("the threshold itself", x.reach(NONE, 5, NONE), 2);
        Check.same("one more", x.reach(NONE, 6, NONE), 3);
        Check.same("the least value", x.reach(NONE, LOW + 1, NONE), 2);
        Check.same("the greatest value", x.reach(NONE, HIGH, NONE), 3);
    }

    private static void turnedTheOtherWayRound() {
        Check.sentence("Terms", "turned, the other way round");
        SurrogateTree x = grown(new int[] {1, 6, NONE, 0}, new int[] {2, 5, NONE, 1});
        root("between 5 and 6, turned", x, 0, 1 + 4 + 8 * 2, 5);
        Check.same("the threshold itself", x.reach(NONE, 5, NONE), 3);
        Check.same("one more", x.reach(NONE, 6, NONE), 2);
        Check.same("the least value", x.reach(NONE, LOW + 1, NONE), 3);
        Check.same("the greatest value", x.reach(NONE, HIGH, NONE), 2);
    }

    /** bag(0) draws four rows 1, 1, 2 and 0 times. By counts two would agree, no more than are left. */
    private static void agreementIsWeight() {
        Check.sentence("Terms", "Its AGREEMENT is the weight of the both-rows that it sends to the side where (f, t) has them.");
        SurrogateTree x = Trees.table(
            new int[] {1, 10, NONE, 0}, new int[] {2, 30, NONE, 0}, new int[] {3, 20, NONE, 1}, new int[] {3, 12, NONE, 1});
        x.bag(0);
        x.grow(1);
        root("rows 0 and 2 agree", x, 0, 1 + 8 * 3, 15);
    }

    private static void theGreatestAgreementThereIs() {
        Check.sentence("Promise 9", "the feature, + 4 if it is turned, + 8 times its agreement");
        int[][] rows = new int[16][];
        for (int i = 0; i < 16; i++) {
            rows[i] = new int[] {i, i, -i, i / 8};
        }
        root("sixteen rows agree", grown(rows), 0, 1 + 8 * 16, 7, 2 + 4 + 8 * 16, -8);
    }

    /**
     * At feature 1 the sides are, by value, right left left right; at feature 2 left right right left:
     * at each the least and the greatest threshold agree with three rows, one of them turned. The last
     * rule never tells: turned and not turned agree equally with half the weight each, and that is
     * never more than the weight of both sides.
     */
    private static void amongEqualsTheLeastThreshold() {
        Check.sentence("Terms", "among equals the least u, then the one that is not turned");
        SurrogateTree x = grown(
            new int[] {1, 20, 10, 0}, new int[] {2, 30, 40, 0}, new int[] {3, 10, 20, 1}, new int[] {4, 40, 30, 1});
        root("turned at 15, not turned at 15", x, 0, 1 + 4 + 8 * 3, 15, 2 + 8 * 3, 15);
    }

    private static void asMuchAsTheLeft() {
        Check.sentence("Terms", "if that agreement is more than the weight of the both-rows that (f, t) has left");
        SurrogateTree x = grown(
            new int[] {1, 1, NONE, 0}, new int[] {2, 2, NONE, 0}, new int[] {3, 3, NONE, 0}, new int[] {4, 3, NONE, 1});
        root("three are left, three agree", x, 0);
    }

    private static void asMuchAsTheRight() {
        Check.sentence("Terms", "and more than the weight of those it has right; otherwise none at g");
        SurrogateTree x = grown(
            new int[] {1, 3, NONE, 1}, new int[] {2, 1, NONE, 0}, new int[] {3, 2, NONE, 0}, new int[] {4, 3, NONE, 0});
        root("three are right, three agree", x, 0);
    }

    private static void oneMoreThanTheHeavierSide() {
        Check.sentence("Terms", "if that agreement is more than the weight of the both-rows that (f, t) has left, and more than");
        root("three are left, four agree",
            grown(new int[] {1, 1, NONE, 0}, new int[] {2, 1, NONE, 0}, new int[] {3, 1, NONE, 0}, new int[] {4, 2, NONE, 1}),
            0, 1 + 8 * 4, 1);
        root("three are right, four agree",
            grown(new int[] {1, 2, NONE, 1}, new int[] {2, 1, NONE, 0}, new int[] {3, 1, NONE, 0}, new int[] {4, 1, NONE, 0}),
            0, 1 + 4 + 8 * 4, 1);
        // the row without a value at feature 1 makes the left side heavier, but is no both-row
        root("two of three left rows are both-rows, three agree",
            grown(new int[] {1, 1, NONE, 0}, new int[] {2, 1, NONE, 0}, new int[] {3, NONE, NONE, 0}, new int[] {4, 2, NONE, 1}),
            0, 1 + 8 * 3, 1);
    }

    private static void upToTwoStandIns() {
        Check.sentence("Terms", "So a node has up to two stand-ins");
        root("none", grown(new int[] {1, NONE, 7, 0}, new int[] {2, NONE, 7, 1}), 0);
        root("one, at feature 1", grown(new int[] {1, 3, 7, 0}, new int[] {2, 4, 7, 1}), 0, 1 + 8 * 2, 3);
        root("one, at feature 2", grown(new int[] {1, 3, 7, 0}, new int[] {2, 3, 8, 1}), 0, 2 + 8 * 2, 7);
        root("two", grown(new int[] {1, 3, 7, 0}, new int[] {2, 4, 8, 1}), 0, 1 + 8 * 2, 3, 2 + 8 * 2, 7);
    }

    /** Six rows agree at the split's feature, four are present at one other and three at the third. */
    private static void theGreaterAgreementIsFirst() {
        Check.sentence("Terms", "FIRST comes the one with the greater agreement");
        int[] split = {1, 2, 3, 7, 8, 9};
        int[] four = {1, 1, NONE, 2, 2, NONE};
        int[] three = {5, 5, NONE, 6, NONE, NONE};
        root("feature 0, then 1, then 2", columns(split, four, three), 0, 1 + 8 * 4, 1, 2 + 8 * 3, 5);
        root("feature 0, then 2, then 1", columns(split, three, four), 0, 2 + 8 * 4, 1, 1 + 8 * 3, 5);
        root("feature 1, then 2, then 0", columns(three, split, four), 1, 2 + 8 * 4, 1, 8 * 3, 5);
        root("feature 1, then 0, then 2", columns(four, split, three), 1, 8 * 4, 1, 2 + 8 * 3, 5);
        root("feature 2, then 1, then 0", columns(three, four, split), 2, 1 + 8 * 4, 1, 8 * 3, 5);
        root("feature 2, then 0, then 1", columns(four, three, split), 2, 8 * 4, 1, 1 + 8 * 3, 5);
    }

    /** Rows with these values at the three features, the first half in class 0, the others in class 1. */
    private static SurrogateTree columns(int[] at0, int[] at1, int[] at2) {
        int[][] rows = new int[at0.length][];
        for (int i = 0; i < rows.length; i++) {
            rows[i] = new int[] {at0[i], at1[i], at2[i], 2 * i < rows.length ? 0 : 1};
        }
        return grown(rows);
    }

    private static void amongEqualsTheLesserFeature() {
        Check.sentence("Terms", "among equals the one with the lesser feature");
        int[] split = {1, 2, 3, 4};
        int[] one = {1, 1, 2, 1};
        int[] other = {1, 1, 1, 2};
        root("features 1 and 2", columns(split, one, other), 0, 1 + 8 * 3, 1, 2 + 8 * 3, 1);
        root("features 0 and 2", columns(one, split, other), 1, 8 * 3, 1, 2 + 8 * 3, 1);
        root("features 0 and 1", columns(other, one, split), 2, 8 * 3, 1, 1 + 8 * 3, 1);
    }

    private static void presentRowsAskNoStandIn() {
        Check.sentence("Terms", "a row that is present at f goes left if its value there is <= t, else right");
        SurrogateTree x = grown(new int[] {1, 3, 7, 0}, new int[] {2, 4, 8, 1});
        Check.same("left, though both stand-ins say right", x.reach(1, 4, 8), 2);
        Check.same("right, though both stand-ins say left", x.reach(2, 3, 7), 3);
    }

    private static void theFirstWhereItIsPresent() {
        Check.sentence("Terms", "one that is not goes where the first of the stand-ins at whose feature it is present sends it");
        SurrogateTree x = columns(new int[] {1, 2, 3, 7, 8, 9}, new int[] {5, 5, NONE, 6, NONE, NONE},
            new int[] {1, 1, NONE, 2, 2, NONE});
        root("feature 2 is first", x, 0, 2 + 8 * 4, 1, 1 + 8 * 3, 5);
        Check.same("the first says left, the second right", x.reach(NONE, 6, 1), 2);
        Check.same("the first says right, the second left", x.reach(NONE, 5, 2), 3);
        Check.same("only the second is there, and says right", x.reach(NONE, 6, NONE), 3);
        Check.same("only the second is there, and says left", x.reach(NONE, 5, NONE), 2);
        Check.same("only the first is there", x.reach(NONE, NONE, 2), 3);
    }

    /** One row is left and one right; the stand-in sends two more to the right, who do not count. */
    private static void equalSidesGoLeft() {
        Check.sentence("Terms", "if there is no such stand-in, it goes left if L >= R");
        SurrogateTree x = Trees.table(
            new int[] {0, 0, NONE, 0}, new int[] {1, 5, NONE, 1}, new int[] {NONE, 5, NONE, 1}, new int[] {NONE, 6, NONE, 1});
        x.begin(1, 4, 1);
        x.grow(1);
        root("a stand-in at feature 1", x, 0, 1 + 8 * 2, 2);
        Check.same("three rows go right", x.rowsOf(3), 2 + 4 + 8);
        Check.same("L = R: left", x.reach(NONE, NONE, NONE), 2);
        Check.same("a value at a feature without stand-in", x.reach(NONE, NONE, 9), 2);
    }

    /** One row is left and two right; the stand-in sends three more to the left, who do not count. */
    private static void aHeavierRightSide() {
        Check.sentence("Terms", "it goes left if L >= R, else right");
        SurrogateTree x = Trees.table(
            new int[] {0, 0, NONE, 0}, new int[] {1, 5, NONE, 1}, new int[] {1, 5, NONE, 1}, new int[] {NONE, 0, NONE, 1},
            new int[] {NONE, 0, NONE, 1}, new int[] {NONE, 0, NONE, 1});
        x.begin(1, 4, 1);
        x.grow(1);
        root("a stand-in at feature 1", x, 0, 1 + 8 * 3, 2);
        Check.same("four rows go left", x.rowsOf(2), 1 + 8 + 16 + 32);
        Check.same("L < R: right", x.reach(NONE, NONE, NONE), 3);
        SurrogateTree left = Trees.line(0, 0, 1);
        left.grow(1);
        Check.same("L > R: left", left.reach(NONE, NONE, NONE), 2);
    }

    /** Row 4 goes by the first stand-in, row 5 by the second, row 6 to the side that is not lighter. */
    private static void childrenHaveTheRowsThatGoThere() {
        Check.sentence("Terms", "The rows of a child are those rows of the node that go there.");
        SurrogateTree x = Trees.table(
            new int[] {1, 3, 7, 0}, new int[] {1, 3, 7, 0}, new int[] {2, 4, 8, 1}, new int[] {2, 4, 8, 1},
            new int[] {NONE, 4, 7, 0}, new int[] {NONE, NONE, 8, 0}, new int[] {NONE, NONE, NONE, 1});
        x.begin(1, 4, 1);
        x.grow(1);
        root("two stand-ins", x, 0, 1 + 8 * 4, 3, 2 + 8 * 4, 7);
        Check.same("left", x.rowsOf(2), 1 + 2 + 64);
        Check.same("right", x.rowsOf(3), 4 + 8 + 16 + 32);
        Check.same("class of the right rows, all of them", x.classOf(3), 0);
        Check.same("error of the right rows, all of them", x.error(3), 2);
        Check.same("error of the left rows, all of them", x.error(2), 1);
    }

    private static void ruleOfNoSuchStandIn() {
        Check.sentence("Promise 9", "-1 if there is .. no such stand-in");
        SurrogateTree none = grown(new int[] {1, NONE, NONE, 0}, new int[] {2, NONE, NONE, 1});
        Check.same("rule(1, 1) without stand-ins", none.rule(1, 1), -1);
        Check.same("rule(1, 2) without stand-ins", none.rule(1, 2), -1);
        SurrogateTree one = grown(new int[] {1, NONE, 3, 0}, new int[] {2, NONE, 4, 1});
        Check.same("rule(1, 1) with one", one.rule(1, 1), 2 + 8 * 2);
        Check.same("rule(1, 2) with one", one.rule(1, 2), -1);
        SurrogateTree two = grown(new int[] {1, 3, 3, 0}, new int[] {2, 4, 4, 1});
        Check.same("rule(1, 2) with two", two.rule(1, 2), 2 + 8 * 2);
        Check.same("rule(1, 3) with two", two.rule(1, 3), -1);
        two.grow(2);
        Check.same("rule(2, 1) of a leaf", two.rule(2, 1), -1);
        // two rows more, with which the other features agree with half the rows
        two.addRow(1, 4, 4, 0);
        two.addRow(2, 3, 3, 1);
        two.grow(1);
        root("the root had two stand-ins before it was split anew", two, 0);
    }

    private static void reachOfAWaitingRoot() {
        Check.sentence("Promise 15", "The number of the node of the shown tree, waiting or a leaf there");
        SurrogateTree x = new SurrogateTree();
        Check.same("a waiting root without rows", x.reach(1, 2, 3), 1);
        Check.same("without values", x.reach(NONE, NONE, NONE), 1);
        x.grow(1);
        Check.same("a leaf without rows", x.reach(1, 2, 3), 1);
        SurrogateTree growing = Trees.line(0, 1, 0);
        Check.same("a waiting root", growing.reach(1, NONE, NONE), 1);
        growing.grow(1);
        Check.same("a waiting child", growing.reach(1, NONE, NONE), 3);
        growing.grow(1);
        Check.same("a leaf beside it", growing.reach(0, NONE, NONE), 2);
    }

    private static void reachEndsWhereTheRowsAre() {
        Check.sentence("Promise 15", "at which a row with these values would end that goes down from the root");
        for (int depth = 0; depth <= 4; depth++) {
            SurrogateTree x = Trees.sixteenLeaves();
            x.begin(0, depth, 1);
            Trees.growWhole(x);
            for (int row = 0; row < 16; row++) {
                int[] values = Trees.SIXTEEN[row];
                int k = x.reach(values[0], values[1], values[2]);
                Check.same("depth of row " + row + "'s end", 31 - Integer.numberOfLeadingZeros(k), depth);
                Check.same("kind(" + k + ")", x.kind(k), 1);
                Check.same("row " + row + " is in node " + k, x.rowsOf(k) >> row & 1, 1);
            }
        }
    }

    private static void reachOfAnyInts() {
        Check.sentence("Promise 15", "at which a row with these values would end that goes down from the root");
        SurrogateTree x = Trees.sixteenLeaves();
        Trees.growWhole(x);
        int[] values = {LOW, LOW + 1, -1, 0, 1, HIGH};
        for (int a : values) {
            for (int b : values) {
                int k = x.reach(a, b, -7);
                Check.same("reach(" + a + ", " + b + ", -7) is a leaf", x.kind(k), 1);
            }
        }
    }
}
