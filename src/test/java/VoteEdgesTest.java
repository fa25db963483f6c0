import java.util.Arrays;

/** The edges that the document names for votes: terms, promises 18, 19, 20. */
public final class VoteEdgesTest {
    private static final int NONE = Trees.NONE;
    private static final int LOW = Integer.MIN_VALUE;
    private static final int HIGH = Integer.MAX_VALUE;

    public static void main(String[] args) {
        zeroAtFirst();
        oneMoreVoteForWeightZero();
        noRowOfWeightZero();
        forTheShownTreesNode();
        undrawnRowsGoDownByStandIns();
        howManyVotesWereGiven();
        refusedIfANodeWaits();
        votesOfNoSuchRow();
        votesForNoSuchClass();
        votesOfTheLastRow();
        rowsWithoutVotesAreNotWrong();
        mostVotesForAnotherClass();
        equallyManyVotes();
        noRowsAreWrong();
        Check.end();
    }

    private static void draw(SurrogateTree x, long seed) {
        x.bag(seed);
        Trees.growWhole(x);
    }

    private static void zeroAtFirst() {
        Check.sentence("Terms", "Every row has for every class a count of votes, 0 at first");
        SurrogateTree x = Trees.line(0, 1, 2, 3);
        for (int row = 0; row < 4; row++) {
            for (int c = 0; c < 4; c++) {
                Check.same("votes(" + row + ", " + c + ")", x.votes(row, c), 0);
            }
        }
        Check.same("there is no row 4", x.votes(4, 0), -1);
    }

    /** bag(174) draws row 3 of four four times; its tree is a leaf of class 3. */
    private static void oneMoreVoteForWeightZero() {
        Check.sentence("Promise 18", "Each row with weight 0 gets one more vote");
        SurrogateTree x = Trees.line(0, 1, 2, 3);
        draw(x, 174);
        for (int time = 1; time <= 3; time++) {
            Check.same("tally", x.tally(), 3);
            for (int row = 0; row < 4; row++) {
                Check.same("votes(" + row + ", 3)", x.votes(row, 3), row < 3 ? time : 0);
                Check.same("votes(" + row + ", 0)", x.votes(row, 0), 0);
            }
        }
        // bag(49) draws row 0 four times
        draw(x, 49);
        x.tally();
        Check.same("row 3 gets a vote by the new tree", x.votes(3, 0), 1);
        Check.same("row 1 gets one more, for another class", x.votes(1, 0), 1);
        Check.same("row 1 keeps the earlier ones", x.votes(1, 3), 3);
        Check.same("row 0 gets none", x.votes(0, 0), 0);
    }

    private static void noRowOfWeightZero() {
        Check.sentence("Promise 18", "Each row with weight 0 gets one more vote");
        SurrogateTree x = Trees.line(0, 1, 2, 3, 0);
        Trees.growWhole(x);
        Check.same("even weights", x.tally(), 0);
        draw(x, 1);
        Check.same("each row was drawn once", x.tally(), 0);
        for (int row = 0; row < 5; row++) {
            for (int c = 0; c < 4; c++) {
                Check.same("votes(" + row + ", " + c + ")", x.votes(row, c), 0);
            }
        }
        SurrogateTree none = new SurrogateTree();
        none.grow(1);
        Check.same("no rows", none.tally(), 0);
    }

    /** Row 3 ends at node 5, of class 1, in the whole tree and at the root, of class 0, in the cut one. */
    private static void forTheShownTreesNode() {
        Check.sentence("Promise 18", "for the class of the node of the shown tree at which it ends");
        SurrogateTree x = Trees.drawn();
        x.tally();
        Check.same("by the grown tree", x.votes(3, 1), 1);
        x.cut(1000, 1);
        x.tally();
        Check.same("by the tree cut to its root", x.votes(3, 0), 1);
        x.cut(0, 1);
        x.tally();
        Check.same("by the tree cut at 0", x.votes(3, 1), 2);
        x.cut(1000, 1);
        x.cut(0, 0);
        x.tally();
        Check.same("by the whole tree again", x.votes(3, 1), 3);
        Check.same("the cut tree's vote stays", x.votes(3, 0), 1);
    }

    /** bag(0) draws four rows 1, 1, 2 and 0 times; row 3 has no value at feature 0. */
    private static void undrawnRowsGoDownByStandIns() {
        Check.sentence("Promise 18", "at which it ends");
        SurrogateTree right = Trees.table(
            new int[] {1, 5, NONE, 0}, new int[] {1, 5, NONE, 0}, new int[] {2, 6, NONE, 1}, new int[] {NONE, 6, NONE, 0});
        draw(right, 0);
        right.tally();
        Check.same("the stand-in sends row 3 right", right.votes(3, 1), 1);
        SurrogateTree left = Trees.table(
            new int[] {1, 5, NONE, 0}, new int[] {1, 5, NONE, 0}, new int[] {2, 6, NONE, 1}, new int[] {NONE, NONE, 1, 0});
        draw(left, 0);
        left.tally();
        Check.same("without a value row 3 goes left, as L = R", left.votes(3, 0), 1);
    }

    private static void howManyVotesWereGiven() {
        Check.sentence("Promise 18", "Answers how many votes were given");
        SurrogateTree five = Trees.line(0, 1, 2, 3, 0);
        Check.same("four of five rows are not drawn", five.bag(162), 4);
        five.grow(1);
        Check.same("four votes", five.tally(), 4);
        SurrogateTree full = Trees.sixteenLeaves();
        Check.same("eight of sixteen rows are not drawn", full.bag(0), 8);
        Trees.growWhole(full);
        Check.same("eight votes", full.tally(), 8);
    }

    private static void refusedIfANodeWaits() {
        Check.sentence("Promise 18", "-1 (refused) if a node waits");
        Check.same("a new object", new SurrogateTree().tally(), -1);
        SurrogateTree x = Trees.drawn();
        x.begin(0, 4, 1);
        for (int turn = 1; turn <= 5; turn++) {
            Check.same("before turn " + turn, x.tally(), -1);
            Check.same("no vote is given", x.votes(3, 0) + x.votes(3, 1), 0);
            x.grow(1);
        }
        Check.same("no node waits", x.tally(), 1);
        x.even();
        Check.same("growing anew", x.tally(), -1);
        Check.same("the vote stays", x.votes(3, 1), 1);
    }

    private static void votesOfNoSuchRow() {
        Check.sentence("Promise 19", "-1 if there is no such row");
        SurrogateTree none = new SurrogateTree();
        SurrogateTree three = Trees.line(0, 1, 2);
        SurrogateTree full = Trees.line(new int[16]);
        for (int row : new int[] {-1, 16, 17, LOW, HIGH}) {
            Check.same("of no rows, votes(" + row + ", 0)", none.votes(row, 0), -1);
            Check.same("of three rows, votes(" + row + ", 0)", three.votes(row, 0), -1);
            Check.same("of sixteen rows, votes(" + row + ", 0)", full.votes(row, 0), -1);
        }
        Check.same("of no rows, votes(0, 0)", none.votes(0, 0), -1);
        Check.same("of three rows, votes(2, 0)", three.votes(2, 0), 0);
        Check.same("of three rows, votes(3, 0)", three.votes(3, 0), -1);
        Check.same("of sixteen rows, votes(15, 0)", full.votes(15, 0), 0);
    }

    private static void votesForNoSuchClass() {
        Check.sentence("Promise 19", "or the class is not 0 .. 3");
        SurrogateTree x = Trees.line(0, 1, 2);
        for (int c : new int[] {-1, 4, 5, LOW, HIGH}) {
            Check.same("votes(0, " + c + ")", x.votes(0, c), -1);
            Check.same("votes(9, " + c + ")", x.votes(9, c), -1);
        }
        Check.same("votes(0, 0)", x.votes(0, 0), 0);
        Check.same("votes(0, 3)", x.votes(0, 3), 0);
    }

    /** bag(0) draws sixteen rows; neither row 14 nor row 15 is among them. */
    private static void votesOfTheLastRow() {
        Check.sentence("Promise 19", "The votes of a row for a class");
        int[] classes = new int[16];
        Arrays.fill(classes, 3);
        SurrogateTree x = Trees.line(classes);
        draw(x, 0);
        x.tally();
        Check.same("votes(15, 3)", x.votes(15, 3), 1);
        Check.same("votes(14, 3)", x.votes(14, 3), 1);
        Check.same("votes(13, 3)", x.votes(13, 3), 0);
        Check.same("votes(15, 2)", x.votes(15, 2), 0);
    }

    private static void rowsWithoutVotesAreNotWrong() {
        Check.sentence("Promise 20", "How many rows have votes");
        SurrogateTree x = Trees.line(1, 2, 3);
        Check.same("no row has votes", x.wrong(), 0);
        // bag(22) draws row 2 alone
        draw(x, 22);
        Check.same("no row has votes yet", x.wrong(), 0);
        x.tally();
        Check.same("rows 0 and 1 have votes for class 3, row 2 has none", x.wrong(), 2);
        x.even();
        Check.same("after even", x.wrong(), 2);
        x.bag(22);
        Check.same("after bag", x.wrong(), 2);
        x.begin(2, 0, 8);
        Check.same("after begin", x.wrong(), 2);
        x.addRow(1, 1, 1, 1);
        Check.same("after addRow", x.wrong(), 0);
    }

    private static void mostVotesForAnotherClass() {
        Check.sentence("Promise 20", "and have most of them .. for another class than their own");
        // bag(1) draws row 0 alone, bag(4) row 1 alone
        SurrogateTree same = Trees.line(2, 2);
        draw(same, 1);
        same.tally();
        Check.same("row 1 has its vote for its own class", same.wrong(), 0);
        SurrogateTree other = Trees.line(2, 3);
        draw(other, 1);
        other.tally();
        Check.same("row 1 has its vote for class 2", other.wrong(), 1);
        draw(other, 4);
        other.tally();
        Check.same("row 0 has its vote for class 3 too", other.wrong(), 2);
        // three rows: bag(22) draws row 2 alone, bag(48) row 1 alone
        SurrogateTree three = Trees.line(0, 1, 0);
        draw(three, 48);
        three.tally();
        Check.same("rows 0 and 2 have one vote for class 1", three.wrong(), 2);
        draw(three, 22);
        three.tally();
        three.tally();
        Check.same("row 0 has two for its own: rows 1 and 2 are wrong", three.wrong(), 2);
        Check.same("votes(0, 0)", three.votes(0, 0), 2);
        Check.same("votes(0, 1)", three.votes(0, 1), 1);
    }

    /** Row 0 gets a vote for the class of row 2, then one for that of row 1. */
    private static int wrongWithATie(int own, int first, int second) {
        SurrogateTree x = Trees.line(own, second, first);
        draw(x, 22);
        x.tally();
        draw(x, 48);
        x.tally();
        Check.same("a vote for class " + first, x.votes(0, first), 1);
        Check.same("a vote for class " + second, x.votes(0, second), 1);
        // rows 1 and 2 have one vote each, for each other's class
        return x.wrong() - 2;
    }

    private static void equallyManyVotes() {
        Check.sentence("Promise 20", "of several classes with equally many: the least");
        Check.same("own class 1, votes for 1 and 2", wrongWithATie(1, 1, 2), 0);
        Check.same("own class 1, votes for 2 and 1", wrongWithATie(1, 2, 1), 0);
        Check.same("own class 2, votes for 1 and 2", wrongWithATie(2, 1, 2), 1);
        Check.same("own class 2, votes for 2 and 1", wrongWithATie(2, 2, 1), 1);
        Check.same("own class 0, votes for 0 and 3", wrongWithATie(0, 0, 3), 0);
        Check.same("own class 3, votes for 0 and 3", wrongWithATie(3, 0, 3), 1);
        Check.same("own class 0, votes for 2 and 3", wrongWithATie(0, 2, 3), 1);
    }

    private static void noRowsAreWrong() {
        Check.sentence("Promise 20", "How many rows have votes");
        SurrogateTree x = new SurrogateTree();
        Check.same("no rows", x.wrong(), 0);
        x.grow(1);
        x.tally();
        Check.same("no rows, tallied", x.wrong(), 0);
    }
}
