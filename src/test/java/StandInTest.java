/** Promises 9 and 10, where they are about stand-ins; every root here is split at feature 0. */
public final class StandInTest {
    private static final int NONE = Trees.NONE;

    public static void main(String[] args) {
        equalAgreement();
        theGreaterAgreementIsFirst();
        noMoreThanTheHeavierSide();
        noMoreThanTheRightSide();
        theLeastThreshold();
        onlyBothRowsCount();
        leafSizeHasNoPart();
        weightsCount();
        wrongNumbers();
        Check.end();
    }

    private static void standIn(SurrogateTree x, String what, int i, int rule, int threshold) {
        Check.same(what + ": rule(1, 0)", x.rule(1, 0), 0);
        Check.same(what + ": rule(1, " + i + ")", x.rule(1, i), rule);
        Check.same(what + ": threshold(1, " + i + ")", x.threshold(1, i), threshold);
    }

    private static SurrogateTree grown(int[]... rows) {
        SurrogateTree x = new SurrogateTree();
        for (int[] r : rows) {
            x.addRow(r[0], r[1], r[2], r[3]);
        }
        x.grow(1);
        return x;
    }

    private static SurrogateTree mirrored() {
        return grown(new int[] {1, 9, 5, 0}, new int[] {2, 8, 5, 0}, new int[] {3, 7, 6, 1}, new int[] {4, 6, 6, 1});
    }

    private static void equalAgreement() {
        SurrogateTree x = mirrored();
        standIn(x, "the lesser feature first, turned", 1, 1 + 4 + 8 * 4, 7);
        standIn(x, "then the greater feature", 2, 2 + 8 * 4, 5);
        Check.same("turned: a high value goes left", x.reach(NONE, 8, NONE), 2);
        Check.same("turned: the threshold goes right", x.reach(NONE, 7, NONE), 3);
    }

    private static void theGreaterAgreementIsFirst() {
        SurrogateTree x = grown(
            new int[] {1, 1, 5, 0}, new int[] {2, 2, 5, 0}, new int[] {3, 1, NONE, 1}, new int[] {4, 3, 6, 1},
            new int[] {4, 3, 6, 1}, new int[] {4, NONE, 6, 1}, new int[] {4, NONE, 6, 1});
        standIn(x, "the greater agreement", 1, 2 + 8 * 6, 5);
        standIn(x, "the lesser agreement", 2, 1 + 8 * 4, 2);
        Check.same("the first is asked first", x.reach(NONE, 0, 9), 3);
        Check.same("the second is asked then", x.reach(NONE, 0, NONE), 2);
    }

    /** Three rows are left; at feature 1 the best agreement is three, at feature 2 it is two. */
    private static void noMoreThanTheHeavierSide() {
        SurrogateTree x = grown(
            new int[] {1, 1, 1, 0}, new int[] {2, 2, 2, 0}, new int[] {3, 3, 3, 0}, new int[] {4, 3, 2, 1});
        standIn(x, "as much as the left rows", 1, -1, 0);
        standIn(x, "less than the left rows", 2, -1, 0);
        Check.same("the heavier side, left", x.reach(NONE, 3, 2), 2);
    }

    private static void noMoreThanTheRightSide() {
        SurrogateTree x = grown(
            new int[] {1, 3, 7, 1}, new int[] {2, 1, 7, 0}, new int[] {3, 2, 7, 0}, new int[] {4, 3, 7, 0});
        standIn(x, "as much as the right rows", 1, -1, 0);
        standIn(x, "one value has no threshold", 2, -1, 0);
        Check.same("the heavier side, right", x.reach(NONE, 1, 7), 3);
    }

    /** At feature 1 the sides are right, left, left, right; at feature 2 the other way round. */
    private static void theLeastThreshold() {
        SurrogateTree x = grown(
            new int[] {1, 20, -7, 0}, new int[] {2, 30, 8, 0}, new int[] {3, 10, -4, 1}, new int[] {4, 40, 1, 1});
        standIn(x, "turned, at the lesser threshold", 1, 1 + 4 + 8 * 3, 15);
        standIn(x, "not turned, at the lesser threshold", 2, 2 + 8 * 3, -6);
    }

    /** Rows that miss feature 0 or 1 neither agree nor make a threshold. */
    private static void onlyBothRowsCount() {
        SurrogateTree x = grown(
            new int[] {1, 10, NONE, 0}, new int[] {2, NONE, NONE, 0}, new int[] {8, 20, NONE, 1},
            new int[] {9, NONE, NONE, 1}, new int[] {NONE, 14, NONE, 0});
        standIn(x, "both-rows", 1, 1 + 8 * 2, 15);
        standIn(x, "nobody is present at feature 2", 2, -1, 0);
        Check.same("the row that misses feature 0", x.rowsOf(2), 1 + 2 + 16);
    }

    private static void leafSizeHasNoPart() {
        SurrogateTree x = new SurrogateTree();
        x.addRow(1, 1, NONE, 0);
        x.addRow(2, NONE, NONE, 0);
        x.addRow(3, 2, NONE, 1);
        x.addRow(4, NONE, NONE, 1);
        x.begin(0, 4, 2);
        x.grow(1);
        standIn(x, "a stand-in of single rows", 1, 1 + 8 * 2, 1);
    }

    /** Weights 1, 0, 2: the undrawn row would make another threshold. */
    private static void weightsCount() {
        SurrogateTree x = new SurrogateTree();
        x.addRow(1, 10, NONE, 0);
        x.addRow(2, 16, NONE, 0);
        x.addRow(3, 20, NONE, 1);
        x.bag(0);
        x.grow(1);
        standIn(x, "agreement is weight", 1, 1 + 8 * 3, 15);
    }

    private static void wrongNumbers() {
        SurrogateTree x = mirrored();
        for (int i : new int[] {-1, 3, 4, Integer.MIN_VALUE, Integer.MAX_VALUE}) {
            standIn(x, "no such number", i, -1, 0);
        }
    }
}
