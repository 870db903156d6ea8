import java.lang.reflect.Field;

/**
 * Promise 48 from inside: no run of calls makes the data wrong, so this test reaches into them. It names the rows of
 * the class and has to follow them.
 */
public final class ConsistencyTest {
    public static void main(String[] args) throws ReflectiveOperationException {
        Check.promise(48);
        keysOutOfOrder();
        pointsThatBelongAbove();
        wrongCounts();
        fullWindows();
        waysThatDisagree();
        Check.finish();
    }

    // The points are put in the slots 1 to 7 in this order:
    // ((((0:1)10:10)20:80(30:20))50:90(70:85(80:6)))
    private static PrioritySearchTree sample() {
        PrioritySearchTree x = Check.tree(50, 90, 20, 80, 70, 85, 10, 10, 30, 20, 80, 6, 0, 1);
        Check.due(true, x::isConsistent);
        return x;
    }

    private static Object part(PrioritySearchTree x, String... names) throws ReflectiveOperationException {
        Object part = x;
        for (String name : names) {
            Field field = part.getClass().getDeclaredField(name);
            field.setAccessible(true);
            part = field.get(part);
        }
        return part;
    }

    private static void wrongAfter(String row, int slot, int value) throws ReflectiveOperationException {
        PrioritySearchTree x = sample();
        ((int[]) part(x, "now", "tree", row))[slot] = value;
        Check.due(row + " " + slot + " " + value, x.isConsistent(), false);
    }

    private static void keysOutOfOrder() throws ReflectiveOperationException {
        int[][] wrongs = {{1, 19}, {1, 71}, {2, 9}, {2, 31}, {5, 20}, {5, 19}, {5, 50}, {5, 51}, {6, 69}, {7, 10},
            {7, 11}, {7, -1}, {6, 100}};
        for (int[] wrong : wrongs) {
            wrongAfter("keys", wrong[0], wrong[1]);
        }
    }

    private static void pointsThatBelongAbove() throws ReflectiveOperationException {
        int[][] wrongs = {{1, 79}, {1, 80}, {2, 91}, {2, 90}, {3, 91}, {6, 86}, {7, 11}, {7, 10}};
        for (int[] wrong : wrongs) {
            wrongAfter("priorities", wrong[0], wrong[1]);
        }
        PrioritySearchTree x = sample();
        // The same priority is right for a child with a greater key.
        ((int[]) part(x, "now", "tree", "priorities"))[3] = 90;
        Check.due(true, x::isConsistent);
        // A left child below a right child: the root is the greatest of all ranges that have both.
        for (int priority : new int[] {84, 85, 86, 90}) {
            PrioritySearchTree y = Check.tree(50, 90, 70, 85, 60, 10);
            ((int[]) part(y, "now", "tree", "priorities"))[3] = priority;
            Check.due("priority " + priority, y.isConsistent(), priority < 85);
        }
    }

    private static void wrongCounts() throws ReflectiveOperationException {
        for (int slot = 1; slot <= 7; slot++) {
            int count = ((int[]) part(sample(), "now", "tree", "counts"))[slot];
            wrongAfter("counts", slot, count + 1);
            wrongAfter("counts", slot, count - 1);
        }
    }

    /** A point in a slot that the tree does not reach is seen by the looks at all points only. */
    private static void waysThatDisagree() throws ReflectiveOperationException {
        for (int key : new int[] {0, 50, 99}) {
            PrioritySearchTree x = sample();
            ((int[]) part(x, "now", "tree", "keys"))[8] = key;
            ((int[]) part(x, "now", "tree", "priorities"))[8] = 0;
            ((int[]) part(x, "now", "tree", "counts"))[8] = 1;
            Check.due(false, x::isConsistent);
        }
    }

    private static void fullWindows() throws ReflectiveOperationException {
        for (int window = 0; window < 4; window++) {
            PrioritySearchTree x = sample();
            x.setWindow(window, 0, 99, 0, 7);
            Check.due(true, x::isConsistent);
            ((int[]) part(x, "now", "windows", "limits"))[window] = 6;
            Check.due(false, x::isConsistent);
        }
    }
}
