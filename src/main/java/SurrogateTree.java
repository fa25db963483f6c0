/**
 * A decision tree over at most sixteen rows, with stand-ins for missing values, cutting by cost and
 * votes of trees grown from drawn rows.
 *
 * <p>Sets of rows are ints: bit r stands for row r, the form in which rowsOf answers. Every array
 * and object is made in a constructor and used again, so that no call makes anything.
 */
public final class SurrogateTree {
    public static final int MISSING = -2147483648;

    private static final int ROW_LIMIT = 16;
    private static final int FEATURES = 3;
    private static final int CLASSES = 4;
    private static final int CRITERIA = 3;
    private static final int DEEPEST = 4;
    private static final int GREATEST_LEAF_SIZE = 8;
    private static final int GREATEST_CUT_TERM = 1000;
    private static final int MOST_TURNS = 3;
    private static final int ROOT = 1;
    private static final int NODE_END = 32;
    /** A full tree has sixteen leaves, and every break takes one away at least. */
    private static final int BREAK_LIMIT = 15;

    private static final int ABSENT = -1;
    private static final int WAITING = 0;
    private static final int LEAF = 1;
    private static final int SPLIT = 2;

    private final Table table;
    private final Ballot ballot;
    private final Node[] nodes;
    private final Shape grown;
    private final Shape trimmed;
    private final SplitSearch splitSearch;
    private final StandInSearch standInSearch;
    private final Cutter cutter;
    private final int[] asked;
    /** Either the grown shape or the trimmed one. */
    private Shape shown;
    private int criterion;
    private int depthLimit;
    private int leafSize;

    public SurrogateTree() {
        table = new Table();
        ballot = new Ballot();
        nodes = new Node[NODE_END];
        for (int k = 0; k < NODE_END; k++) {
            nodes[k] = new Node();
        }
        grown = new Shape();
        trimmed = new Shape();
        splitSearch = new SplitSearch();
        standInSearch = new StandInSearch();
        cutter = new Cutter();
        asked = new int[FEATURES];
        criterion = 0;
        depthLimit = DEEPEST;
        leafSize = 1;
        startAnew();
    }

    public int addRow(int a, int b, int c, int inClass) {
        if (!isClass(inClass) || table.size >= ROW_LIMIT) {
            return -1;
        }
        int row = table.append(a, b, c, inClass);
        table.setWeights(1);
        ballot.clear();
        startAnew();
        return row;
    }

    public boolean begin(int criterion, int depth, int leaf) {
        if (criterion < 0 || criterion >= CRITERIA || depth < 0 || depth > DEEPEST) {
            return false;
        }
        if (leaf < 1 || leaf > GREATEST_LEAF_SIZE) {
            return false;
        }
        this.criterion = criterion;
        depthLimit = depth;
        leafSize = leaf;
        startAnew();
        return true;
    }

    public int bag(long seed) {
        if (table.size == 0) {
            return -1;
        }
        table.draw(seed);
        startAnew();
        return table.size - Integer.bitCount(table.weightyRows());
    }

    public void even() {
        table.setWeights(1);
        startAnew();
    }

    public int weight(int row) {
        return table.has(row) ? table.weights[row] : -1;
    }

    public int grow(int n) {
        if (n < 1 || n > MOST_TURNS) {
            return -1;
        }
        int made = 0;
        for (int i = 0; i < n; i++) {
            int k = grown.firstWaiting();
            if (k != 0) {
                makeTurn(k);
                made++;
            }
        }
        return made;
    }

    public int kind(int k) {
        return shown.at(k);
    }

    public int rule(int k, int i) {
        if (shown.at(k) != SPLIT) {
            return -1;
        }
        Node node = nodes[k];
        if (i == 0) {
            return node.feature;
        }
        return node.hasStandIn(i) ? node.standIns[i - 1].code() : -1;
    }

    public int threshold(int k, int i) {
        if (shown.at(k) != SPLIT) {
            return 0;
        }
        Node node = nodes[k];
        if (i == 0) {
            return node.limit;
        }
        return node.hasStandIn(i) ? node.standIns[i - 1].limit : 0;
    }

    public long gain(int k) {
        if (shown.at(k) != SPLIT) {
            return 0;
        }
        Fraction worth = nodes[k].worth;
        return worth.numerator * 4096 + worth.denominator;
    }

    public int rowsOf(int k) {
        return shown.at(k) == ABSENT ? -1 : nodes[k].rows;
    }

    public int classOf(int k) {
        return shown.at(k) == ABSENT ? -1 : nodes[k].majority;
    }

    public int error(int k) {
        return shown.at(k) == ABSENT ? -1 : nodes[k].strays;
    }

    public int reach(int a, int b, int c) {
        asked[0] = a;
        asked[1] = b;
        asked[2] = c;
        return endOf(asked);
    }

    public int cut(int p, int q) {
        if (grown.firstWaiting() != 0 || !isCutTerm(p) || !isCutTerm(q)) {
            return -1;
        }
        if (q == 0) {
            shown = grown;
        } else {
            cutter.trim(grown, nodes, p, q, trimmed);
            shown = trimmed;
        }
        return shown.leaves();
    }

    public int breakAt(int k) {
        if (grown.firstWaiting() != 0 || k < 0 || k >= BREAK_LIMIT) {
            return -1;
        }
        if (!cutter.findBreak(grown, nodes, k)) {
            return -1;
        }
        return (int) (cutter.found.numerator * 32 + cutter.found.denominator);
    }

    public int tally() {
        if (grown.firstWaiting() != 0) {
            return -1;
        }
        int given = 0;
        for (int row = 0; row < table.size; row++) {
            if (table.weights[row] == 0) {
                ballot.add(row, nodes[endOf(table.values[row])].majority);
                given++;
            }
        }
        return given;
    }

    public int votes(int row, int inClass) {
        return table.has(row) && isClass(inClass) ? ballot.counts[row][inClass] : -1;
    }

    public int wrong() {
        int count = 0;
        for (int row = 0; row < table.size; row++) {
            int choice = ballot.choice(row);
            if (choice >= 0 && choice != table.classes[row]) {
                count++;
            }
        }
        return count;
    }

    private static boolean isClass(int number) {
        return number >= 0 && number < CLASSES;
    }

    private static boolean isCutTerm(int number) {
        return number >= 0 && number <= GREATEST_CUT_TERM;
    }

    private void startAnew() {
        grown.clear();
        openNode(ROOT, table.weightyRows());
        shown = grown;
    }

    private void openNode(int k, int rows) {
        nodes[k].takeRows(table, rows);
        grown.kinds[k] = WAITING;
    }

    private void makeTurn(int k) {
        // No node lies deeper than the limit, and the nodes at depth d have the numbers from 2^d on.
        boolean atLimit = k >= 1 << depthLimit;
        Node node = nodes[k];
        if (atLimit || !splitSearch.findBest(table, node, criterion, leafSize)) {
            grown.kinds[k] = LEAF;
            return;
        }
        standInSearch.findFor(table, node);
        grown.kinds[k] = SPLIT;
        int leftRows = node.rowsGoingLeft(table);
        openNode(2 * k, leftRows);
        openNode(2 * k + 1, node.rows & ~leftRows);
    }

    private int endOf(int[] values) {
        int k = ROOT;
        for (int depth = 0; depth < DEEPEST && shown.at(k) == SPLIT; depth++) {
            k = nodes[k].sendsLeft(values) ? 2 * k : 2 * k + 1;
        }
        return k;
    }

    /** The rows with their values, classes and weights. */
    private static final class Table {
        private static final long FACTOR = 7391840562913847605L;
        private static final long ADDEND = 1027;
        private static final int THROW_RESULTS = 32;
        private static final int MOST_THROWS = 8;

        final int[][] values;
        final int[] classes;
        final int[] weights;
        int size;

        Table() {
            values = new int[ROW_LIMIT][FEATURES];
            classes = new int[ROW_LIMIT];
            weights = new int[ROW_LIMIT];
            size = 0;
        }

        boolean has(int row) {
            return row >= 0 && row < size;
        }

        int append(int a, int b, int c, int inClass) {
            int row = size;
            values[row][0] = a;
            values[row][1] = b;
            values[row][2] = c;
            classes[row] = inClass;
            size++;
            return row;
        }

        void setWeights(int each) {
            for (int row = 0; row < size; row++) {
                weights[row] = each;
            }
        }

        void draw(long seed) {
            setWeights(0);
            long state = seed;
            for (int i = 0; i < size; i++) {
                int result = THROW_RESULTS;
                for (int j = 0; j < MOST_THROWS && !isFair(result); j++) {
                    state = state * FACTOR + ADDEND;
                    result = (int) (state >>> 59);
                }
                weights[result % size]++;
            }
        }

        /** Whether every row belongs to equally many of the results that are taken. */
        private boolean isFair(int result) {
            return result < THROW_RESULTS - THROW_RESULTS % size;
        }

        int weightyRows() {
            int rows = 0;
            for (int row = 0; row < size; row++) {
                if (weights[row] > 0) {
                    rows |= 1 << row;
                }
            }
            return rows;
        }

        int weightOf(int rows) {
            int sum = 0;
            for (int row = 0; row < size; row++) {
                if (contains(rows, row)) {
                    sum += weights[row];
                }
            }
            return sum;
        }

        int rowsInClass(int rows, int inClass) {
            int found = 0;
            for (int row = 0; row < size; row++) {
                if (contains(rows, row) && classes[row] == inClass) {
                    found |= 1 << row;
                }
            }
            return found;
        }

        int rowsPresent(int rows, int feature) {
            int found = 0;
            for (int row = 0; row < size; row++) {
                if (contains(rows, row) && values[row][feature] != MISSING) {
                    found |= 1 << row;
                }
            }
            return found;
        }

        /** Of rows that are present at the feature, those with a value up to the limit. */
        int rowsUpTo(int rows, int feature, int limit) {
            int found = 0;
            for (int row = 0; row < size; row++) {
                if (contains(rows, row) && values[row][feature] <= limit) {
                    found |= 1 << row;
                }
            }
            return found;
        }

        static boolean contains(int rows, int row) {
            return (rows >> row & 1) != 0;
        }
    }

    /** The votes of every row for every class. */
    private static final class Ballot {
        final int[][] counts;

        Ballot() {
            counts = new int[ROW_LIMIT][CLASSES];
        }

        void clear() {
            for (int row = 0; row < ROW_LIMIT; row++) {
                for (int c = 0; c < CLASSES; c++) {
                    counts[row][c] = 0;
                }
            }
        }

        void add(int row, int inClass) {
            counts[row][inClass]++;
        }

        /** The least of the classes with the most votes; -1 for a row without votes. */
        int choice(int row) {
            int best = -1;
            int most = 0;
            for (int c = 0; c < CLASSES; c++) {
                if (counts[row][c] > most) {
                    most = counts[row][c];
                    best = c;
                }
            }
            return best;
        }
    }

    /** A fraction from 0 on, in lowest terms. */
    private static final class Fraction {
        /** Euclid's steps on two longs are always fewer. */
        private static final int MOST_STEPS = 100;

        long numerator;
        long denominator;

        Fraction() {
            numerator = 0;
            denominator = 1;
        }

        void set(long top, long bottom) {
            long common = commonDivisor(top, bottom);
            if (common > 0) {
                numerator = top / common;
                denominator = bottom / common;
            }
        }

        void copyFrom(Fraction other) {
            numerator = other.numerator;
            denominator = other.denominator;
        }

        boolean isMoreThan(Fraction other) {
            return numerator * other.denominator > other.numerator * denominator;
        }

        private static long commonDivisor(long first, long second) {
            long a = first;
            long b = second;
            for (int i = 0; i < MOST_STEPS && b != 0; i++) {
                long rest = a % b;
                a = b;
                b = rest;
            }
            return a;
        }
    }

    /** What sends a row on at a node when the split's own value is missing. */
    private static final class StandIn {
        int feature;
        int limit;
        boolean turned;
        int agreement;

        void copyFrom(StandIn other) {
            feature = other.feature;
            limit = other.limit;
            turned = other.turned;
            agreement = other.agreement;
        }

        boolean sendsLeft(int value) {
            return (value <= limit) != turned;
        }

        int code() {
            return feature + (turned ? 4 : 0) + 8 * agreement;
        }
    }

    /** A node's rows and, once it is split, how it sends rows on. */
    private static final class Node {
        int rows;
        int majority;
        /** The weight of the rows that are not in the majority's class. */
        int strays;
        int feature;
        int limit;
        final Fraction worth;
        boolean leansLeft;
        final StandIn[] standIns;
        int standInCount;

        Node() {
            worth = new Fraction();
            standIns = new StandIn[FEATURES - 1];
            for (int i = 0; i < FEATURES - 1; i++) {
                standIns[i] = new StandIn();
            }
        }

        void takeRows(Table table, int taken) {
            rows = taken;
            majority = 0;
            int most = 0;
            for (int c = 0; c < CLASSES; c++) {
                int mass = table.weightOf(table.rowsInClass(rows, c));
                if (mass > most) {
                    most = mass;
                    majority = c;
                }
            }
            strays = table.weightOf(rows) - most;
        }

        /** Stand-ins are counted from 1 on, as rule and threshold do. */
        boolean hasStandIn(int i) {
            return i >= 1 && i <= standInCount;
        }

        /** Called in the order of the features, so that among equals the lesser comes first. */
        void addStandIn(StandIn added) {
            int place = standInCount;
            if (place == 1 && added.agreement > standIns[0].agreement) {
                standIns[1].copyFrom(standIns[0]);
                place = 0;
            }
            standIns[place].copyFrom(added);
            standInCount++;
        }

        boolean sendsLeft(int[] values) {
            if (values[feature] != MISSING) {
                return values[feature] <= limit;
            }
            for (int i = 0; i < standInCount; i++) {
                int value = values[standIns[i].feature];
                if (value != MISSING) {
                    return standIns[i].sendsLeft(value);
                }
            }
            return leansLeft;
        }

        int rowsGoingLeft(Table table) {
            int going = 0;
            for (int row = 0; row < table.size; row++) {
                if (Table.contains(rows, row) && sendsLeft(table.values[row])) {
                    going |= 1 << row;
                }
            }
            return going;
        }
    }

    /** The limits that lie between neighbouring values of some rows at a feature. */
    private static final class Limits {
        private final int[] sorted;
        private int distinct;

        Limits() {
            sorted = new int[ROW_LIMIT];
        }

        /** The rows must be present at the feature. */
        void collect(Table table, int rows, int feature) {
            distinct = 0;
            for (int row = 0; row < table.size; row++) {
                if (Table.contains(rows, row)) {
                    insert(table.values[row][feature]);
                }
            }
        }

        private void insert(int value) {
            int place = 0;
            while (place < distinct && sorted[place] < value) {
                place++;
            }
            if (place < distinct && sorted[place] == value) {
                return;
            }
            for (int i = distinct; i > place; i--) {
                sorted[i] = sorted[i - 1];
            }
            sorted[place] = value;
            distinct++;
        }

        int count() {
            return Math.max(0, distinct - 1);
        }

        int at(int i) {
            return (int) Math.floorDiv((long) sorted[i] + sorted[i + 1], 2L);
        }
    }

    /** Finds the best split of a node. */
    private static final class SplitSearch {
        private final Limits limits;
        private final int[] left;
        private final int[] right;
        private int leftWeight;
        private int rightWeight;
        private final Fraction candidate;

        SplitSearch() {
            limits = new Limits();
            left = new int[CLASSES];
            right = new int[CLASSES];
            candidate = new Fraction();
        }

        /** Whether there is a split with a gain of more than 0; the node then has the best. */
        boolean findBest(Table table, Node node, int criterion, int leafSize) {
            node.worth.set(0, 1);
            for (int f = 0; f < FEATURES; f++) {
                int present = table.rowsPresent(node.rows, f);
                limits.collect(table, present, f);
                for (int i = 0; i < limits.count(); i++) {
                    weighSides(table, present, table.rowsUpTo(present, f, limits.at(i)));
                    if (leftWeight >= leafSize && rightWeight >= leafSize) {
                        measure(criterion);
                        offer(node, f, limits.at(i));
                    }
                }
            }
            return node.worth.numerator > 0;
        }

        private void weighSides(Table table, int present, int leftRows) {
            int rightRows = present & ~leftRows;
            for (int c = 0; c < CLASSES; c++) {
                left[c] = table.weightOf(table.rowsInClass(leftRows, c));
                right[c] = table.weightOf(table.rowsInClass(rightRows, c));
            }
            leftWeight = table.weightOf(leftRows);
            rightWeight = table.weightOf(rightRows);
        }

        /** Called in the order of features and limits, so that among equals the first stays. */
        private void offer(Node node, int feature, int limit) {
            if (candidate.isMoreThan(node.worth)) {
                node.worth.copyFrom(candidate);
                node.feature = feature;
                node.limit = limit;
                node.leansLeft = leftWeight >= rightWeight;
            }
        }

        private void measure(int criterion) {
            if (criterion == 0) {
                measureSquares();
            } else if (criterion == 1) {
                measureMajorities();
            } else {
                measureDistance();
            }
        }

        private void measureSquares() {
            long leftSquares = 0;
            long rightSquares = 0;
            long allSquares = 0;
            for (int c = 0; c < CLASSES; c++) {
                int both = left[c] + right[c];
                leftSquares += left[c] * left[c];
                rightSquares += right[c] * right[c];
                allSquares += both * both;
            }
            long all = leftWeight + rightWeight;
            long product = leftWeight * rightWeight;
            long top = (leftSquares * rightWeight + rightSquares * leftWeight) * all - allSquares * product;
            candidate.set(top, product * all);
        }

        private void measureMajorities() {
            int mostLeft = 0;
            int mostRight = 0;
            int mostBoth = 0;
            for (int c = 0; c < CLASSES; c++) {
                mostLeft = Math.max(mostLeft, left[c]);
                mostRight = Math.max(mostRight, right[c]);
                mostBoth = Math.max(mostBoth, left[c] + right[c]);
            }
            candidate.set(mostLeft + mostRight - mostBoth, 1);
        }

        private void measureDistance() {
            long distance = 0;
            for (int c = 0; c < CLASSES; c++) {
                distance += Math.abs(left[c] * rightWeight - right[c] * leftWeight);
            }
            long all = leftWeight + rightWeight;
            candidate.set(distance * distance, all * leftWeight * rightWeight);
        }
    }

    /** Finds the stand-ins of a node that has its split. */
    private static final class StandInSearch {
        private final Limits limits;
        private final StandIn best;

        StandInSearch() {
            limits = new Limits();
            best = new StandIn();
        }

        void findFor(Table table, Node node) {
            node.standInCount = 0;
            for (int g = 0; g < FEATURES; g++) {
                if (g != node.feature && findAt(table, node, g)) {
                    node.addStandIn(best);
                }
            }
        }

        private boolean findAt(Table table, Node node, int feature) {
            int both = table.rowsPresent(table.rowsPresent(node.rows, node.feature), feature);
            int leftRows = table.rowsUpTo(both, node.feature, node.limit);
            int all = table.weightOf(both);
            int leftWeight = table.weightOf(leftRows);
            // A stand-in has to do better than sending all rows to the heavier side.
            int floor = Math.max(leftWeight, all - leftWeight);
            best.feature = feature;
            best.agreement = floor;
            limits.collect(table, both, feature);
            for (int i = 0; i < limits.count(); i++) {
                int limit = limits.at(i);
                int agreeing = both & ~(leftRows ^ table.rowsUpTo(both, feature, limit));
                int agreement = table.weightOf(agreeing);
                offer(limit, false, agreement);
                offer(limit, true, all - agreement);
            }
            return best.agreement > floor;
        }

        private void offer(int limit, boolean turned, int agreement) {
            if (agreement > best.agreement) {
                best.limit = limit;
                best.turned = turned;
                best.agreement = agreement;
            }
        }
    }

    /** Which nodes a tree has, and of what kind they are. */
    private static final class Shape {
        final int[] kinds;

        Shape() {
            kinds = new int[NODE_END];
            clear();
        }

        void clear() {
            for (int k = 0; k < NODE_END; k++) {
                kinds[k] = ABSENT;
            }
        }

        int at(int k) {
            return k >= ROOT && k < NODE_END ? kinds[k] : ABSENT;
        }

        /** The waiting node with the least number; 0 if none waits. */
        int firstWaiting() {
            for (int k = ROOT; k < NODE_END; k++) {
                if (kinds[k] == WAITING) {
                    return k;
                }
            }
            return 0;
        }

        int leaves() {
            int count = 0;
            for (int k = ROOT; k < NODE_END; k++) {
                if (kinds[k] == LEAF) {
                    count++;
                }
            }
            return count;
        }

        void dropOrphans() {
            for (int k = ROOT + 1; k < NODE_END; k++) {
                if (kinds[k / 2] != SPLIT) {
                    kinds[k] = ABSENT;
                }
            }
        }
    }

    /** Cuts a grown tree and finds its breaks. */
    private static final class Cutter {
        final Fraction found;
        private final Shape rest;
        private final Fraction candidate;
        private final int[] costs;
        private final int[] leavesBelow;
        private final int[] straysBelow;

        Cutter() {
            found = new Fraction();
            rest = new Shape();
            candidate = new Fraction();
            costs = new int[NODE_END];
            leavesBelow = new int[NODE_END];
            straysBelow = new int[NODE_END];
        }

        /** Costs are counted in parts of 1 / q, so that they are whole. */
        void trim(Shape grown, Node[] nodes, int p, int q, Shape result) {
            for (int k = NODE_END - 1; k >= ROOT; k--) {
                int kind = grown.at(k);
                costs[k] = nodes[k].strays * q + p;
                if (kind == SPLIT && 2 * k + 1 < NODE_END) {
                    int below = costs[2 * k] + costs[2 * k + 1];
                    if (below < costs[k]) {
                        costs[k] = below;
                    } else {
                        kind = LEAF;
                    }
                }
                result.kinds[k] = kind;
            }
            result.dropOrphans();
        }

        /** Whether there is a break with this number, which is found then. */
        boolean findBreak(Shape grown, Node[] nodes, int number) {
            trim(grown, nodes, 0, 1, rest);
            boolean exists = findWeakest(nodes);
            for (int i = 0; i < number && exists; i++) {
                trim(grown, nodes, (int) found.numerator, (int) found.denominator, rest);
                exists = findWeakest(nodes);
            }
            return exists;
        }

        /**
         * Finds the least fraction at which a split node of the rest becomes a leaf: what its leaves
         * save in error, for each leaf that it has more than one. False if the rest has no split.
         */
        private boolean findWeakest(Node[] nodes) {
            boolean any = false;
            for (int k = NODE_END - 1; k >= ROOT; k--) {
                leavesBelow[k] = 1;
                straysBelow[k] = nodes[k].strays;
                if (rest.at(k) == SPLIT && 2 * k + 1 < NODE_END) {
                    leavesBelow[k] = leavesBelow[2 * k] + leavesBelow[2 * k + 1];
                    straysBelow[k] = straysBelow[2 * k] + straysBelow[2 * k + 1];
                    candidate.set(nodes[k].strays - straysBelow[k], leavesBelow[k] - 1);
                    if (!any || found.isMoreThan(candidate)) {
                        found.copyFrom(candidate);
                        any = true;
                    }
                }
            }
            return any;
        }
    }
}
