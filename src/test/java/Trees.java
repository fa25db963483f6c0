/** Tables that several tests use. */
final class Trees {
    static final int NONE = SurrogateTree.MISSING;
    static final int[][] SIXTEEN = {
        {0, 1, 3, 3}, {0, 0, 0, 2}, {3, 2, 0, 3}, {0, 3, NONE, 0}, {1, 1, 0, 1}, {4, 3, 2, 2}, {2, 2, NONE, 1},
        {3, 1, 4, 3}, {2, 0, 0, 3}, {4, 4, 4, 2}, {1, 4, 0, 0}, {NONE, 3, 3, 0}, {4, 4, 2, 3}, {NONE, 2, 2, 1},
        {NONE, 1, 3, 0}, {0, 4, 4, 1}
    };

    private Trees() {
    }

    /** Rows with the values 0, 1, .. at feature 0 alone, in these classes. */
    static SurrogateTree line(int... classes) {
        SurrogateTree x = new SurrogateTree();
        for (int i = 0; i < classes.length; i++) {
            x.addRow(i, NONE, NONE, classes[i]);
        }
        return x;
    }

    /** Rows of three values and a class each. */
    static SurrogateTree table(int[]... rows) {
        SurrogateTree x = new SurrogateTree();
        for (int[] r : rows) {
            x.addRow(r[0], r[1], r[2], r[3]);
        }
        return x;
    }

    /** With the settings of a new object every node down to depth 3 is split. */
    static SurrogateTree sixteenLeaves() {
        return table(SIXTEEN);
    }

    /** By criterion 2 the root is split at 3, node 2 at 2 and node 3 at 6, into leaves of one class. */
    static SurrogateTree halves() {
        SurrogateTree x = line(0, 0, 0, 1, 2, 2, 2, 3);
        x.begin(2, 4, 1);
        return x;
    }

    static void growWhole(SurrogateTree x) {
        for (int i = 0; i < 11; i++) {
            x.grow(3);
        }
    }

    /**
     * Four drawn rows of weights 1, 1, 2, 0, grown. Node 1 (error 1) is split at 1, node 2 (error 1)
     * at 0; the leaves 3, 4 and 5 have no error. Row 3 ends at node 5.
     */
    static SurrogateTree drawn() {
        SurrogateTree x = new SurrogateTree();
        x.addRow(0, NONE, NONE, 0);
        x.addRow(1, NONE, NONE, 1);
        x.addRow(2, NONE, NONE, 0);
        x.addRow(1, NONE, NONE, 1);
        x.bag(0);
        growWhole(x);
        return x;
    }
}
