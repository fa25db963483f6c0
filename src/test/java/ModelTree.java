import java.math.BigInteger;
import java.util.ArrayList;
import java.util.List;
import java.util.TreeMap;
import java.util.TreeSet;

/**
 * The document told a second time, slowly and in other ways than the program: nodes are objects that
 * hold lists of rows, fractions are BigIntegers, and breaks are found by trying every fraction.
 */
final class ModelTree {
    static final int MISSING = Integer.MIN_VALUE;

    record Ratio(BigInteger top, BigInteger bottom) implements Comparable<Ratio> {
        static Ratio of(long top, long bottom) {
            BigInteger a = BigInteger.valueOf(top);
            BigInteger b = BigInteger.valueOf(bottom);
            BigInteger common = a.gcd(b);
            return new Ratio(a.divide(common), b.divide(common));
        }

        Ratio plus(Ratio other) {
            BigInteger sum = top.multiply(other.bottom).add(other.top.multiply(bottom));
            BigInteger product = bottom.multiply(other.bottom);
            BigInteger common = sum.gcd(product);
            return new Ratio(sum.divide(common), product.divide(common));
        }

        Ratio negated() {
            return new Ratio(top.negate(), bottom);
        }

        @Override
        public int compareTo(Ratio other) {
            return top.multiply(other.bottom).compareTo(other.top.multiply(bottom));
        }
    }

    static final class Row {
        final int number;
        final int[] values;
        final int inClass;
        int weight = 1;
        final int[] votes = new int[4];

        Row(int number, int[] values, int inClass) {
            this.number = number;
            this.values = values;
            this.inClass = inClass;
        }

        boolean present(int feature) {
            return values[feature] != MISSING;
        }
    }

    record StandIn(int feature, long threshold, boolean turned, int agreement) {
        boolean left(int value) {
            boolean low = value <= threshold;
            return turned ? !low : low;
        }
    }

    static final class Node {
        final List<Row> rows;
        int kind = 0;
        int feature;
        long threshold;
        Ratio gain;
        boolean leftIfUnknown;
        List<StandIn> standIns = new ArrayList<>();

        Node(List<Row> rows) {
            this.rows = rows;
        }

        boolean left(int[] values) {
            if (values[feature] != MISSING) {
                return values[feature] <= threshold;
            }
            for (StandIn s : standIns) {
                if (values[s.feature()] != MISSING) {
                    return s.left(values[s.feature()]);
                }
            }
            return leftIfUnknown;
        }
    }

    private final List<Row> rows = new ArrayList<>();
    private int criterion = 0;
    private int depthLimit = 4;
    private int leafSize = 1;
    private TreeMap<Integer, Node> tree = new TreeMap<>();
    /** The kinds of the shown tree's nodes after a cut; null while the whole tree is shown. */
    private TreeMap<Integer, Integer> cutKinds = null;
    /** The grown tree's breaks; null until they are asked for. */
    private List<Ratio> breaks = null;

    ModelTree() {
        anew();
    }

    private void anew() {
        List<Row> weighty = new ArrayList<>();
        for (Row r : rows) {
            if (r.weight > 0) {
                weighty.add(r);
            }
        }
        tree = new TreeMap<>();
        tree.put(1, new Node(weighty));
        cutKinds = null;
        breaks = null;
    }

    int addRow(int a, int b, int c, int inClass) {
        if (inClass < 0 || inClass > 3 || rows.size() == 16) {
            return -1;
        }
        rows.add(new Row(rows.size(), new int[] {a, b, c}, inClass));
        for (Row r : rows) {
            r.weight = 1;
            for (int i = 0; i < 4; i++) {
                r.votes[i] = 0;
            }
        }
        anew();
        return rows.size() - 1;
    }

    boolean begin(int newCriterion, int depth, int leaf) {
        boolean fine = 0 <= newCriterion && newCriterion <= 2 && 0 <= depth && depth <= 4 && 1 <= leaf && leaf <= 8;
        if (fine) {
            criterion = newCriterion;
            depthLimit = depth;
            leafSize = leaf;
            anew();
        }
        return fine;
    }

    int bag(long seed) {
        int n = rows.size();
        if (n == 0) {
            return -1;
        }
        for (Row r : rows) {
            r.weight = 0;
        }
        BigInteger word = BigInteger.ONE.shiftLeft(64);
        BigInteger state = BigInteger.valueOf(seed).mod(word);
        for (int i = 0; i < n; i++) {
            int result = 0;
            int thrown = 0;
            do {
                state = state.multiply(new BigInteger("7391840562913847605")).add(BigInteger.valueOf(1027)).mod(word);
                result = state.shiftRight(59).intValueExact();
                thrown++;
            } while (result >= 32 - 32 % n && thrown < 8);
            rows.get(result % n).weight++;
        }
        anew();
        int undrawn = 0;
        for (Row r : rows) {
            undrawn += r.weight == 0 ? 1 : 0;
        }
        return undrawn;
    }

    void even() {
        for (Row r : rows) {
            r.weight = 1;
        }
        anew();
    }

    int weight(int row) {
        return row < 0 || row >= rows.size() ? -1 : rows.get(row).weight;
    }

    private int waitingNode() {
        for (int k : tree.keySet()) {
            if (tree.get(k).kind == 0) {
                return k;
            }
        }
        return 0;
    }

    int grow(int n) {
        if (n < 1 || n > 3) {
            return -1;
        }
        int made = 0;
        while (made < n && waitingNode() != 0) {
            turn(waitingNode());
            made++;
        }
        return made;
    }

    private static int depthOf(int k) {
        return k == 1 ? 0 : 1 + depthOf(k / 2);
    }

    private void turn(int k) {
        Node node = tree.get(k);
        node.kind = 1;
        if (depthOf(k) == depthLimit) {
            return;
        }
        Ratio best = Ratio.of(0, 1);
        for (int f = 0; f < 3; f++) {
            for (long t : thresholds(node.rows, f)) {
                int[] l = new int[4];
                int[] r = new int[4];
                for (Row row : node.rows) {
                    if (row.present(f)) {
                        (row.values[f] <= t ? l : r)[row.inClass] += row.weight;
                    }
                }
                int left = l[0] + l[1] + l[2] + l[3];
                int right = r[0] + r[1] + r[2] + r[3];
                if (left < leafSize || right < leafSize) {
                    continue;
                }
                Ratio gain = gainOf(l, r, left, right);
                if (gain.compareTo(best) > 0) {
                    best = gain;
                    node.kind = 2;
                    node.feature = f;
                    node.threshold = t;
                    node.gain = gain;
                    node.leftIfUnknown = left >= right;
                }
            }
        }
        if (node.kind == 2) {
            findStandIns(node);
            List<Row> leftRows = new ArrayList<>();
            List<Row> rightRows = new ArrayList<>();
            for (Row row : node.rows) {
                (node.left(row.values) ? leftRows : rightRows).add(row);
            }
            tree.put(2 * k, new Node(leftRows));
            tree.put(2 * k + 1, new Node(rightRows));
        }
    }

    private static List<Long> thresholds(List<Row> some, int f) {
        TreeSet<Integer> values = new TreeSet<>();
        for (Row r : some) {
            if (r.present(f)) {
                values.add(r.values[f]);
            }
        }
        List<Long> found = new ArrayList<>();
        for (int a : values) {
            Integer b = values.higher(a);
            if (b != null) {
                long sum = (long) a + b;
                found.add(sum % 2 == 0 ? sum / 2 : (sum - 1) / 2);
            }
        }
        return found;
    }

    private Ratio gainOf(int[] l, int[] r, int left, int right) {
        if (criterion == 1) {
            int a = 0;
            int b = 0;
            int both = 0;
            for (int c = 0; c < 4; c++) {
                a = Math.max(a, l[c]);
                b = Math.max(b, r[c]);
                both = Math.max(both, l[c] + r[c]);
            }
            return Ratio.of(a + b - both, 1);
        }
        long a = 0;
        long b = 0;
        long both = 0;
        long s = 0;
        for (int c = 0; c < 4; c++) {
            a += l[c] * l[c];
            b += r[c] * r[c];
            both += (l[c] + r[c]) * (l[c] + r[c]);
            s += Math.abs(l[c] * right - r[c] * left);
        }
        int all = left + right;
        if (criterion == 2) {
            return Ratio.of(s * s, (long) all * left * right);
        }
        return Ratio.of(a, left).plus(Ratio.of(b, right)).plus(Ratio.of(both, all).negated());
    }

    private static void findStandIns(Node node) {
        for (int g = 0; g < 3; g++) {
            if (g == node.feature) {
                continue;
            }
            List<Row> both = new ArrayList<>();
            int left = 0;
            int right = 0;
            for (Row r : node.rows) {
                if (r.present(node.feature) && r.present(g)) {
                    both.add(r);
                    if (r.values[node.feature] <= node.threshold) {
                        left += r.weight;
                    } else {
                        right += r.weight;
                    }
                }
            }
            StandIn best = null;
            for (long u : thresholds(both, g)) {
                for (int turned = 0; turned < 2; turned++) {
                    int agreement = 0;
                    StandIn tried = new StandIn(g, u, turned == 1, 0);
                    for (Row r : both) {
                        if (tried.left(r.values[g]) == (r.values[node.feature] <= node.threshold)) {
                            agreement += r.weight;
                        }
                    }
                    if (best == null || agreement > best.agreement()) {
                        best = new StandIn(g, u, turned == 1, agreement);
                    }
                }
            }
            if (best != null && best.agreement() > left && best.agreement() > right) {
                node.standIns.add(best);
            }
        }
        // A stable sort: equals stay in the order of their features.
        node.standIns.sort((x, y) -> y.agreement() - x.agreement());
    }

    int kind(int k) {
        if (cutKinds != null) {
            return cutKinds.getOrDefault(k, -1);
        }
        return tree.containsKey(k) ? tree.get(k).kind : -1;
    }

    int rule(int k, int i) {
        if (kind(k) != 2 || i < 0 || i > tree.get(k).standIns.size()) {
            return -1;
        }
        if (i == 0) {
            return tree.get(k).feature;
        }
        StandIn s = tree.get(k).standIns.get(i - 1);
        return s.feature() + (s.turned() ? 4 : 0) + 8 * s.agreement();
    }

    int threshold(int k, int i) {
        if (rule(k, i) == -1) {
            return 0;
        }
        return Math.toIntExact(i == 0 ? tree.get(k).threshold : tree.get(k).standIns.get(i - 1).threshold());
    }

    long gain(int k) {
        if (kind(k) != 2) {
            return 0;
        }
        Ratio g = tree.get(k).gain;
        return g.top().longValueExact() * 4096 + g.bottom().longValueExact();
    }

    int rowsOf(int k) {
        if (kind(k) == -1) {
            return -1;
        }
        int sum = 0;
        for (Row r : tree.get(k).rows) {
            sum += (int) Math.pow(2, r.number);
        }
        return sum;
    }

    private static int[] classWeights(Node node) {
        int[] sums = new int[4];
        for (Row r : node.rows) {
            sums[r.inClass] += r.weight;
        }
        return sums;
    }

    private static int greatest(int[] numbers) {
        int at = 0;
        for (int i = 1; i < numbers.length; i++) {
            at = numbers[i] > numbers[at] ? i : at;
        }
        return at;
    }

    private static int errorOf(Node node) {
        int[] sums = classWeights(node);
        return sums[0] + sums[1] + sums[2] + sums[3] - sums[greatest(sums)];
    }

    int classOf(int k) {
        return kind(k) == -1 ? -1 : greatest(classWeights(tree.get(k)));
    }

    int error(int k) {
        return kind(k) == -1 ? -1 : errorOf(tree.get(k));
    }

    int reach(int a, int b, int c) {
        int k = 1;
        while (kind(k) == 2) {
            k = 2 * k + (tree.get(k).left(new int[] {a, b, c}) ? 0 : 1);
        }
        return k;
    }

    /** Answers the cost of node k, cut, and enters its kinds and those of all that stays below it. */
    private Ratio cutBelow(int k, Ratio a, TreeMap<Integer, Integer> kinds) {
        Node node = tree.get(k);
        Ratio own = a.plus(Ratio.of(errorOf(node), 1));
        if (node.kind == 2) {
            TreeMap<Integer, Integer> below = new TreeMap<>();
            Ratio cost = cutBelow(2 * k, a, below).plus(cutBelow(2 * k + 1, a, below));
            if (cost.compareTo(own) < 0) {
                kinds.putAll(below);
                kinds.put(k, 2);
                return cost;
            }
        }
        kinds.put(k, 1);
        return own;
    }

    private static int leavesOf(TreeMap<Integer, Integer> kinds) {
        int count = 0;
        for (int kind : kinds.values()) {
            count += kind == 1 ? 1 : 0;
        }
        return count;
    }

    int cut(int p, int q) {
        if (waitingNode() != 0 || p < 0 || p > 1000 || q < 0 || q > 1000) {
            return -1;
        }
        TreeMap<Integer, Integer> kinds = new TreeMap<>();
        if (q == 0) {
            tree.forEach((k, node) -> kinds.put(k, node.kind));
            cutKinds = null;
        } else {
            cutBelow(1, Ratio.of(p, q), kinds);
            cutKinds = kinds;
        }
        return leavesOf(kinds);
    }

    /** All breaks: a break is an error of at most 16 shared among at most 15 leaves. */
    private List<Ratio> findBreaks() {
        TreeSet<Ratio> tried = new TreeSet<>();
        for (int p = 0; p <= 17; p++) {
            for (int q = 1; q <= 15; q++) {
                tried.add(Ratio.of(p, q));
            }
        }
        List<Ratio> found = new ArrayList<>();
        int fewest = Integer.MAX_VALUE;
        for (Ratio a : tried) {
            TreeMap<Integer, Integer> kinds = new TreeMap<>();
            cutBelow(1, a, kinds);
            int leaves = leavesOf(kinds);
            if (leaves < fewest && a.top().signum() > 0) {
                found.add(a);
            }
            fewest = Math.min(fewest, leaves);
            Ratio next = tried.higher(a);
            if (next != null) {
                // Between two tried fractions nothing may change; else the break would be missed.
                TreeMap<Integer, Integer> between = new TreeMap<>();
                Ratio sum = a.plus(next);
                cutBelow(1, new Ratio(sum.top(), sum.bottom().shiftLeft(1)), between);
                if (leavesOf(between) != leaves) {
                    throw new IllegalStateException("a break between the tried fractions");
                }
            }
        }
        return found;
    }

    int breakAt(int k) {
        if (waitingNode() != 0) {
            return -1;
        }
        if (breaks == null) {
            breaks = findBreaks();
        }
        if (k < 0 || k >= breaks.size()) {
            return -1;
        }
        return breaks.get(k).top().intValueExact() * 32 + breaks.get(k).bottom().intValueExact();
    }

    int tally() {
        if (waitingNode() != 0) {
            return -1;
        }
        int given = 0;
        for (Row r : rows) {
            if (r.weight == 0) {
                r.votes[classOf(reach(r.values[0], r.values[1], r.values[2]))]++;
                given++;
            }
        }
        return given;
    }

    int votes(int row, int inClass) {
        if (row < 0 || row >= rows.size() || inClass < 0 || inClass > 3) {
            return -1;
        }
        return rows.get(row).votes[inClass];
    }

    int wrong() {
        int count = 0;
        for (Row r : rows) {
            int all = r.votes[0] + r.votes[1] + r.votes[2] + r.votes[3];
            if (all > 0 && greatest(r.votes) != r.inClass) {
                count++;
            }
        }
        return count;
    }
}
