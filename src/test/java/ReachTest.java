/** Promise 15: reach. */
public final class ReachTest {
    private static final int NONE = Trees.NONE;

    public static void main(String[] args) {
        whileGrowing();
        afterACut();
        heavierSide();
        askingChangesNothing();
        Check.end();
    }

    private static void whileGrowing() {
        SurrogateTree x = Trees.halves();
        Check.same("the root waits", x.reach(0, 0, 0), 1);
        x.grow(1);
        Check.same("left waits", x.reach(3, 0, 0), 2);
        Check.same("right waits", x.reach(4, 0, 0), 3);
        x.grow(1);
        Check.same("left is split", x.reach(2, 0, 0), 4);
        Check.same("left is split, its right", x.reach(3, 0, 0), 5);
        Check.same("right still waits", x.reach(7, 0, 0), 3);
        Trees.growWhole(x);
        Check.same("the least value", x.reach(-2147483647, NONE, NONE), 4);
        Check.same("the greatest value", x.reach(2147483647, NONE, NONE), 7);
        Check.same("between", x.reach(6, 1, 1), 6);
    }

    private static void afterACut() {
        SurrogateTree x = Trees.drawn();
        Check.same("whole", x.reach(1, NONE, NONE), 5);
        x.cut(1, 2);
        Check.same("cut to the root", x.reach(1, NONE, NONE), 1);
        x.cut(1, 3);
        Check.same("cut from the grown tree again", x.reach(0, NONE, NONE), 4);
    }

    private static void heavierSide() {
        SurrogateTree x = Trees.line(0, 1);
        x.grow(1);
        Check.same("equal sides: left", x.reach(NONE, NONE, NONE), 2);
        SurrogateTree right = Trees.line(0, 1, 1);
        right.grow(1);
        Check.same("right is heavier", right.reach(NONE, 3, 3), 3);
        SurrogateTree left = Trees.line(0, 0, 1);
        left.grow(1);
        Check.same("left is heavier", left.reach(NONE, 3, 3), 2);
    }

    private static void askingChangesNothing() {
        SurrogateTree asked = Trees.drawn();
        SurrogateTree other = Trees.drawn();
        for (int a = -10; a <= 10; a++) {
            asked.reach(a, NONE, a);
            asked.reach(NONE, a, NONE);
        }
        Check.isTrue("asking changes nothing", Snapshot.of(other).equals(Snapshot.of(asked)));
    }
}
