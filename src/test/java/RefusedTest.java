import java.util.ArrayList;
import java.util.List;
import java.util.function.Consumer;
import java.util.function.Predicate;
import java.util.function.Supplier;
import java.util.function.ToIntFunction;

/**
 * "A call that is refused changes nothing.": every call that can be refused, in every state in which
 * it is. A tree that made the call is compared with one that did not, at once and after further
 * calls, by which settings and drawn weights come to light that cannot be asked for.
 */
public final class RefusedTest {
    private static final int LOW = Integer.MIN_VALUE;
    private static final int HIGH = Integer.MAX_VALUE;

    private record State(String name, boolean waits, int rows, Supplier<SurrogateTree> maker) {
    }

    /** A call that answers -1 if it is refused; begin's false is told as -1 too. */
    private record Call(String name, Predicate<State> refused, ToIntFunction<SurrogateTree> maker) {
    }

    private record Further(String name, Consumer<SurrogateTree> maker) {
    }

    public static void main(String[] args) {
        Check.sentence("Terms", "A call that is refused changes nothing.");
        for (State state : states()) {
            Check.same("rows: " + state.name, rowsIn(state.maker.get()), state.rows);
            Check.same("waits: " + state.name, state.maker.get().cut(0, 0) == -1, state.waits);
            for (Further further : furtherCalls()) {
                String due = after(state.maker.get(), further);
                for (Call call : refusedCalls()) {
                    if (call.refused.test(state)) {
                        SurrogateTree x = state.maker.get();
                        String when = state.name + ": " + call.name;
                        Check.same(when, call.maker.applyAsInt(x), -1);
                        Check.isTrue(when + ", then " + further.name, due.equals(after(x, further)));
                    }
                }
            }
        }
        Check.end();
    }

    private static int rowsIn(SurrogateTree x) {
        int rows = 0;
        while (x.weight(rows) >= 0) {
            rows++;
        }
        return rows;
    }

    private static String after(SurrogateTree x, Further further) {
        further.maker.accept(x);
        return Snapshot.of(x);
    }

    private static List<State> states() {
        return List.of(
            new State("new", true, 0, SurrogateTree::new),
            new State("a leaf without rows", false, 0, RefusedTest::emptyLeaf),
            new State("waiting", true, 6, () -> grownBy(0)),
            new State("half grown", true, 6, () -> grownBy(1)),
            new State("grown", false, 6, () -> grownBy(3)),
            new State("cut", false, 6, RefusedTest::cut),
            new State("drawn, with votes", false, 6, RefusedTest::voted),
            new State("drawn again, half grown", true, 6, RefusedTest::votedThenDrawn),
            new State("full", false, 16, RefusedTest::full));
    }

    private static SurrogateTree emptyLeaf() {
        SurrogateTree x = new SurrogateTree();
        x.grow(1);
        return x;
    }

    /** With these settings three turns are made; one more level or a lesser leaf size makes more. */
    private static SurrogateTree grownBy(int turns) {
        SurrogateTree x = Trees.line(0, 1, 2, 0, 3, 0);
        x.begin(2, 1, 2);
        for (int i = 0; i < turns; i++) {
            x.grow(1);
        }
        return x;
    }

    private static SurrogateTree cut() {
        SurrogateTree x = grownBy(3);
        x.cut(1000, 1);
        return x;
    }

    private static SurrogateTree voted() {
        SurrogateTree x = grownBy(0);
        x.bag(0);
        x.grow(3);
        x.tally();
        return x;
    }

    private static SurrogateTree votedThenDrawn() {
        SurrogateTree x = voted();
        x.bag(1);
        x.grow(1);
        return x;
    }

    private static SurrogateTree full() {
        SurrogateTree x = Trees.sixteenLeaves();
        x.begin(2, 3, 2);
        x.bag(0);
        Trees.growWhole(x);
        x.tally();
        x.cut(1, 1);
        return x;
    }

    private static List<Call> refusedCalls() {
        List<Call> calls = new ArrayList<>();
        for (int c : new int[] {-1, 4, LOW, HIGH}) {
            calls.add(new Call("addRow(1, 2, 3, " + c + ")", s -> true, x -> x.addRow(1, 2, 3, c)));
        }
        calls.add(new Call("addRow(1, 2, 3, 0)", s -> s.rows == 16, x -> x.addRow(1, 2, 3, 0)));
        int[][] begins = {
            {-1, 4, 1}, {3, 4, 1}, {LOW, 4, 1}, {HIGH, 4, 1}, {0, -1, 1}, {0, 5, 1}, {0, LOW, 1}, {0, HIGH, 1},
            {0, 4, 0}, {0, 4, 9}, {0, 4, LOW}, {0, 4, HIGH}
        };
        for (int[] b : begins) {
            String name = "begin(" + b[0] + ", " + b[1] + ", " + b[2] + ")";
            calls.add(new Call(name, s -> true, x -> x.begin(b[0], b[1], b[2]) ? 1 : -1));
        }
        for (long seed : new long[] {0, 1, Long.MIN_VALUE, Long.MAX_VALUE}) {
            calls.add(new Call("bag(" + seed + ")", s -> s.rows == 0, x -> x.bag(seed)));
        }
        for (int n : new int[] {0, -1, 4, LOW, HIGH}) {
            calls.add(new Call("grow(" + n + ")", s -> true, x -> x.grow(n)));
        }
        for (int[] f : new int[][] {{-1, 1}, {1001, 1}, {1, -1}, {1, 1001}, {-1, 0}, {1001, 0}, {LOW, 1}, {1, HIGH}}) {
            calls.add(new Call("cut(" + f[0] + ", " + f[1] + ")", s -> true, x -> x.cut(f[0], f[1])));
        }
        for (int[] f : new int[][] {{0, 0}, {0, 1}, {1, 2}, {1000, 1000}}) {
            calls.add(new Call("cut(" + f[0] + ", " + f[1] + ")", s -> s.waits, x -> x.cut(f[0], f[1])));
        }
        calls.add(new Call("tally()", s -> s.waits, SurrogateTree::tally));
        return calls;
    }

    private static List<Further> furtherCalls() {
        return List.of(
            new Further("nothing", x -> { }),
            new Further("grow(1)", x -> x.grow(1)),
            new Further("whole growth", Trees::growWhole),
            new Further("cut(0, 0)", x -> x.cut(0, 0)),
            new Further("tally()", SurrogateTree::tally),
            new Further("even and whole growth", RefusedTest::evenAndGrow),
            new Further("a row more and whole growth", RefusedTest::addAndGrow));
    }

    private static void evenAndGrow(SurrogateTree x) {
        x.even();
        Trees.growWhole(x);
    }

    private static void addAndGrow(SurrogateTree x) {
        x.addRow(6, 1, 1, 2);
        Trees.growWhole(x);
    }
}
