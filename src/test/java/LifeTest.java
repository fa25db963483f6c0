/** "An object is used for at most 512 calls after it has been made": all of them are answered. */
public final class LifeTest {
    private static final int CALLS = 512;

    public static void main(String[] args) {
        Check.sentence("What it is", "An object is used for at most 512 calls after it has been made");
        votesUpToTheLastCall();
        refusedUpToTheLastCall();
        drawnUpToTheLastCall();
        anewUpToTheLastCall();
        objectsKnowNothingOfEachOther();
        Check.end();
    }

    /** The tree of the row that was drawn twice votes on the other: two rows, bag, grow, 507 tallies. */
    private static void votesUpToTheLastCall() {
        SurrogateTree x = Trees.line(1, 2);
        x.bag(1);
        x.grow(1);
        for (int call = 5; call < CALLS; call++) {
            Check.same("tally, call " + call, x.tally(), 1);
        }
        Check.same("votes(1, 1), the last call", x.votes(1, 1), CALLS - 5);
    }

    private static void refusedUpToTheLastCall() {
        SurrogateTree x = Trees.line(new int[16]);
        for (int call = 17; call < CALLS; call++) {
            Check.same("addRow, call " + call, x.addRow(call, call, call, 0), -1);
        }
        Check.same("rowsOf(1), the last call", x.rowsOf(1), 65535);
    }

    /** Two rows; bag(1) draws row 0 twice, bag(4) row 1. */
    private static void drawnUpToTheLastCall() {
        SurrogateTree x = Trees.line(0, 1);
        for (int call = 3; call < CALLS; call++) {
            Check.same("bag, call " + call, x.bag(call % 2 == 0 ? 1 : 4), 1);
        }
        Check.same("rowsOf(1), the last call, after bag(4)", x.rowsOf(1), 2);
    }

    private static void anewUpToTheLastCall() {
        SurrogateTree x = Trees.line(0, 1, 0);
        for (int call = 4; call + 3 < CALLS; call += 4) {
            x.even();
            Check.same("grow(3), call " + call, x.grow(3), 3);
            Check.same("grow(3), two turns", x.grow(3), 2);
            Check.same("cut at 1/2", x.cut(1, 2), 1);
        }
        Check.same("breakAt(0), the last call", x.breakAt(0), 32 + 2);
    }

    private static void objectsKnowNothingOfEachOther() {
        SurrogateTree one = Trees.line(0, 1);
        SurrogateTree other = Trees.line(2, 2, 2);
        one.grow(3);
        one.cut(1, 1);
        Check.same("the other has its own rows", other.rowsOf(1), 7);
        Check.same("the other's root waits", other.kind(1), 0);
        other.bag(22);
        Check.same("the one has its own weights", one.weight(0), 1);
        Check.same("the one's tree is still cut", one.kind(1), 1);
    }
}
