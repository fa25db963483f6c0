/**
 * The edges that promise 4 names for drawing. What the throws and the weights are was worked out by
 * another program, in another language.
 */
public final class BagEdgesTest {
    public static void main(String[] args) {
        withoutRows();
        asManyAsThereAre();
        weightsAreSetAnew();
        howManyHaveWeightZero();
        growingStartsAnew();
        seedIsTheFirstState();
        statesWrapAround();
        topFiveBits();
        everyResultCounts();
        resultsJustBelowTheLimit();
        resultsAtTheLimit();
        theEighthThrowCounts();
        afterEightThrowsTheLastCounts();
        Check.end();
    }

    /** Draws among as many rows as weights are given, and compares. */
    private static void draw(long seed, int... weights) {
        SurrogateTree x = Trees.line(new int[weights.length]);
        x.bag(seed);
        for (int row = 0; row < weights.length; row++) {
            Check.same("bag(" + seed + "), weight(" + row + ")", x.weight(row), weights[row]);
        }
        Check.same("bag(" + seed + "), no further row", x.weight(weights.length), -1);
    }

    private static void withoutRows() {
        Check.sentence("Promise 4", "-1 (refused) if there are no rows");
        SurrogateTree x = new SurrogateTree();
        for (long seed : new long[] {0, 1, -1, Long.MIN_VALUE, Long.MAX_VALUE}) {
            Check.same("bag(" + seed + ")", x.bag(seed), -1);
        }
        x.addRow(1, 2, 3, 0);
        Check.same("with one row", x.bag(0), 0);
    }

    private static void asManyAsThereAre() {
        Check.sentence("Promise 4", "Draws rows, as many as there are, with replacement");
        for (int n = 1; n <= 16; n++) {
            SurrogateTree x = Trees.line(new int[n]);
            for (long seed = -12; seed < 12; seed++) {
                x.bag(seed);
                int sum = 0;
                for (int row = 0; row < n; row++) {
                    sum += x.weight(row);
                }
                Check.same("weights of " + n + " rows together", sum, n);
            }
        }
        draw(22, 0, 0, 3);
        draw(1, 1, 1, 1, 1, 1);
    }

    private static void weightsAreSetAnew() {
        Check.sentence("Promise 4", "the weight of a row becomes the number of times that it was drawn");
        SurrogateTree x = Trees.line(0, 1);
        for (int time = 0; time < 3; time++) {
            x.bag(1);
            Check.same("weight(0)", x.weight(0), 2);
            Check.same("weight(1)", x.weight(1), 0);
            x.bag(4);
            Check.same("then weight(0)", x.weight(0), 0);
            Check.same("then weight(1)", x.weight(1), 2);
        }
    }

    private static void howManyHaveWeightZero() {
        Check.sentence("Promise 4", "Answers how many rows have weight 0 then");
        Check.same("one row", Trees.line(0).bag(5), 0);
        Check.same("each of five rows once", Trees.line(new int[5]).bag(1), 0);
        Check.same("one of five rows five times", Trees.line(new int[5]).bag(162), 4);
        Check.same("eight of sixteen rows", Trees.line(new int[16]).bag(0), 8);
    }

    private static void growingStartsAnew() {
        Check.sentence("Promise 4", "growing starts anew");
        SurrogateTree x = Trees.sixteenLeaves();
        Trees.growWhole(x);
        x.cut(1, 1000);
        x.bag(0);
        Check.same("the root waits", x.kind(1), 0);
        for (int k = 2; k <= 31; k++) {
            Check.same("there is no node " + k, x.kind(k), -1);
        }
        Check.same("the root's rows are those drawn", x.rowsOf(1), 0b0010_1000_1110_0111);
    }

    /** From state 0 the first throw makes 1027, whose top bits are 0: row 0 is drawn first. */
    private static void seedIsTheFirstState() {
        Check.sentence("Promise 4", "a STATE is seed at first");
        draw(0, 1, 1);
        draw(0, 1, 0, 2, 2, 0);
        draw(-1, 0, 2);
        draw(-1, 3, 0, 1, 0, 1);
    }

    private static void statesWrapAround() {
        Check.sentence("Promise 4", "a THROW makes it state * 7391840562913847605 + 1027 (as long, wrapping)");
        draw(Long.MAX_VALUE, 0, 1, 0, 3);
        draw(Long.MIN_VALUE, 1, 1, 2, 0);
        draw(Long.MAX_VALUE, 0, 1, 0, 2, 2);
        draw(Long.MIN_VALUE, 0, 2, 2, 1, 0);
        draw(Long.MAX_VALUE, 0, 0, 1, 1, 2, 1, 0, 1, 3, 3, 0, 1, 0, 1, 1, 1);
        draw(Long.MIN_VALUE, 2, 2, 5, 0, 0, 1, 2, 1, 0, 0, 0, 2, 0, 1, 0, 0);
    }

    /** With seed -1 and sixteen rows the throws are 19 5 15 7 30 25 24 4 2 24 13 9 4 25 11 8. */
    private static void topFiveBits() {
        Check.sentence("Promise 4", "its result is the number that the top five bits of the new state form, 0 .. 31");
        draw(-1, 0, 0, 1, 1, 2, 1, 0, 1, 3, 3, 0, 1, 0, 1, 1, 1);
    }

    /** 32 % n is 0 for these n: the throws of seed 1 go from 12 over 31 to 5, and each draws a row. */
    private static void everyResultCounts() {
        Check.sentence("Promise 4", "throws are made until a result is less than 32 - 32 % n");
        draw(1, 1);
        draw(1, 2, 0);
        draw(1, 2, 2, 0, 0);
        draw(1, 0, 1, 0, 0, 3, 3, 1, 0);
        draw(1, 0, 1, 0, 0, 2, 3, 1, 0, 0, 0, 2, 1, 3, 1, 1, 1);
    }

    /** The first throw of each is 31 - 32 % n, the greatest that draws a row. */
    private static void resultsJustBelowTheLimit() {
        Check.sentence("Promise 4", "throws are made until a result is less than 32 - 32 % n");
        draw(152, 1, 0, 2);
        draw(152, 0, 1, 1, 1, 2);
        draw(62, 0, 2, 2, 0, 1, 0, 2);
        draw(22, 2, 0, 1, 0, 0, 1, 1, 2, 2);
        draw(79, 1, 0, 1, 1, 1, 0, 0, 0, 1, 2, 4);
        draw(169, 1, 2, 0, 0, 1, 1, 0, 0, 1, 1, 4, 1);
        draw(2, 2, 0, 1, 0, 0, 0, 3, 1, 3, 0, 0, 2, 1);
        draw(152, 0, 1, 0, 0, 1, 0, 1, 0, 1, 1, 0, 2, 4, 2, 2);
    }

    /** The first throw of each is 32 - 32 % n, the least that draws no row. */
    private static void resultsAtTheLimit() {
        Check.sentence("Promise 4", "throws are made until a result is less than 32 - 32 % n");
        draw(197, 1, 2, 0);
        draw(197, 0, 0, 1, 1, 3);
        draw(107, 1, 1, 3, 1, 1, 0, 0);
        draw(62, 0, 1, 0, 0, 3, 1, 0, 1, 3);
        draw(124, 1, 1, 0, 0, 2, 1, 0, 2, 2, 0, 2);
        draw(214, 0, 2, 1, 1, 1, 0, 2, 1, 1, 1, 2, 0);
        draw(22, 1, 1, 2, 1, 1, 2, 0, 2, 0, 1, 1, 1, 0);
        draw(197, 2, 0, 0, 1, 2, 0, 1, 1, 1, 1, 1, 0, 2, 2, 1);
    }

    /** The first draw's throws are 31 29 24 25 29 29 25 17: seven are too great, the eighth is not. */
    private static void theEighthThrowCounts() {
        Check.sentence("Promise 4", "but at most eight");
        draw(267, 1, 2, 1, 1, 0, 0, 1, 5, 0, 0, 0);
    }

    /** The seventh draw's throws are 23 26 26 24 24 26 24 28, all too great: 28 % 11 is drawn. */
    private static void afterEightThrowsTheLastCounts() {
        Check.sentence("Promise 4", "the row drawn is the last result % n");
        draw(3846, 0, 3, 1, 0, 1, 0, 2, 0, 0, 2, 2);
    }
}
