/** Promises 18, 19 and 20: tally, votes and wrong. */
public final class VoteTest {
    public static void main(String[] args) {
        undrawnRowsGetVotes();
        notWhileANodeWaits();
        theShownTreeVotes();
        drawnRowsGetNone();
        equallyManyVotes();
        mostVotes();
        noSuchVotes();
        Check.end();
    }

    private static void draw(SurrogateTree x, long seed) {
        x.bag(seed);
        Trees.growWhole(x);
    }

    private static void undrawnRowsGetVotes() {
        SurrogateTree x = Trees.line(1, 2);
        draw(x, 1);
        Check.same("wrong without votes", x.wrong(), 0);
        Check.same("tally: row 1 is not drawn", x.tally(), 1);
        Check.same("votes(1, 1)", x.votes(1, 1), 1);
        Check.same("votes(1, 2)", x.votes(1, 2), 0);
        Check.same("votes(0, 1)", x.votes(0, 1), 0);
        Check.same("wrong: row 1", x.wrong(), 1);
        Check.same("tally again", x.tally(), 1);
        Check.same("votes(1, 1) of two", x.votes(1, 1), 2);
        draw(x, 4);
        Check.same("tally: row 0 is not drawn", x.tally(), 1);
        Check.same("votes(0, 2)", x.votes(0, 2), 1);
        Check.same("the votes of other trees stay", x.votes(1, 1), 2);
        Check.same("wrong: both rows", x.wrong(), 2);
    }

    private static void notWhileANodeWaits() {
        SurrogateTree x = Trees.line(1, 2);
        x.bag(1);
        Check.same("tally while the root waits", x.tally(), -1);
        Check.same("no vote was given", x.votes(1, 1), 0);
        SurrogateTree half = Trees.drawn();
        half.begin(0, 4, 1);
        half.grow(3);
        Check.same("tally while a child waits", half.tally(), -1);
        Check.same("no vote was given then", half.votes(3, 1), 0);
    }

    private static void theShownTreeVotes() {
        SurrogateTree x = Trees.drawn();
        x.cut(1, 2);
        x.tally();
        Check.same("the cut tree's vote", x.votes(3, 0), 1);
        Check.same("not the grown tree's", x.votes(3, 1), 0);
        Check.same("wrong by the cut tree", x.wrong(), 1);
        x.cut(0, 0);
        x.tally();
        x.tally();
        Check.same("the whole tree's votes", x.votes(3, 1), 2);
        Check.same("right by the whole tree", x.wrong(), 0);
    }

    private static void drawnRowsGetNone() {
        SurrogateTree x = Trees.line(0, 1, 2, 3);
        Trees.growWhole(x);
        Check.same("tally with even weights", x.tally(), 0);
        draw(x, 10);
        Check.same("tally when each row was drawn", x.tally(), 0);
        SurrogateTree none = new SurrogateTree();
        none.grow(1);
        Check.same("tally without rows", none.tally(), 0);
    }

    /** One vote for class 2 and one for class 1 make class 1. */
    private static void equallyManyVotes() {
        Check.same("row 0 in the lesser class", tied(1).wrong(), 1);
        Check.same("row 0 in the greater class", tied(2).wrong(), 2);
        Check.same("row 0 in neither", tied(0).wrong(), 2);
    }

    /** Row 1 has its one vote for class 2, which is wrong. */
    private static SurrogateTree tied(int inClass) {
        SurrogateTree x = Trees.line(inClass, 1, 2);
        draw(x, 22);
        x.tally();
        draw(x, 7);
        x.tally();
        Check.same("votes(0, 1)", x.votes(0, 1), 1);
        Check.same("votes(0, 2)", x.votes(0, 2), 1);
        Check.same("votes(1, 2)", x.votes(1, 2), 1);
        return x;
    }

    private static void mostVotes() {
        SurrogateTree x = tied(1);
        draw(x, 22);
        x.tally();
        Check.same("two votes for class 2 outdo one for class 1", x.wrong(), 2);
    }

    private static void noSuchVotes() {
        SurrogateTree x = Trees.drawn();
        for (int wrong : new int[] {-1, 4, Integer.MIN_VALUE, Integer.MAX_VALUE}) {
            Check.same("votes of row " + wrong, x.votes(wrong, 0), -1);
            Check.same("votes for class " + wrong, x.votes(0, wrong), -1);
        }
        Check.same("votes(3, 3)", x.votes(3, 3), 0);
    }
}
