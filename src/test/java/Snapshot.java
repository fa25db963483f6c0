/** All that can be asked of a tree without changing it, as one text. */
final class Snapshot {
    private Snapshot() {
    }

    static String of(SurrogateTree x) {
        StringBuilder text = new StringBuilder();
        for (int k = 0; k <= 32; k++) {
            text.append(x.kind(k)).append(' ').append(x.gain(k)).append(' ').append(x.rowsOf(k)).append(' ');
            text.append(x.classOf(k)).append(' ').append(x.error(k)).append(' ').append(x.breakAt(k)).append(' ');
            for (int i = 0; i <= 2; i++) {
                text.append(x.rule(k, i)).append(' ').append(x.threshold(k, i)).append(' ');
            }
        }
        for (int row = 0; row <= 16; row++) {
            text.append(x.weight(row)).append(' ');
            for (int c = 0; c <= 3; c++) {
                text.append(x.votes(row, c)).append(' ');
            }
        }
        for (int a = -2; a <= 10; a++) {
            text.append(x.reach(a, -a, SurrogateTree.MISSING)).append(' ');
        }
        return text.append(x.wrong()).toString();
    }
}
