/**
 * All that can be asked of a tree without changing it, as one text. It takes 340 calls, so that a
 * tree can be asked once within the 512 calls of the document: to see whether a call changed
 * something, make two trees alike and the call on one of them.
 */
final class Snapshot {
    private static final int[][] ENDS = {
        {-2, 2, Trees.NONE}, {0, 0, Trees.NONE}, {1, -1, Trees.NONE}, {2, 7, 3}, {3, Trees.NONE, 1}, {6, 1, 8},
        {Trees.NONE, 4, 4}, {Trees.NONE, Trees.NONE, 2}, {Trees.NONE, Trees.NONE, Trees.NONE}
    };

    private Snapshot() {
    }

    static String of(SurrogateTree x) {
        StringBuilder text = new StringBuilder();
        for (int k = 1; k <= 31; k++) {
            text.append(" node ").append(k).append(": ").append(x.kind(k)).append(' ').append(x.rowsOf(k)).append(' ');
            text.append(x.classOf(k)).append(' ').append(x.error(k));
        }
        for (int k = 1; k <= 15; k++) {
            text.append(" split ").append(k).append(": ").append(x.gain(k));
            for (int i = 0; i <= 2; i++) {
                text.append(' ').append(x.rule(k, i)).append(' ').append(x.threshold(k, i));
            }
        }
        for (int row = 0; row <= 16; row++) {
            text.append(" row ").append(row).append(": ").append(x.weight(row));
            for (int c = 0; c <= 3; c++) {
                text.append(' ').append(x.votes(row, c));
            }
        }
        for (int[] values : ENDS) {
            text.append(" end ").append(x.reach(values[0], values[1], values[2]));
        }
        for (int k = 0; k <= 15; k++) {
            text.append(" break ").append(x.breakAt(k));
        }
        return text.append(" wrong ").append(x.wrong()).toString();
    }
}
