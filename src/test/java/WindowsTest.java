/** Promises 38 to 44. */
public final class WindowsTest {
    private static final int[] NO_WINDOWS = {-1, 4, Integer.MIN_VALUE, Integer.MAX_VALUE};

    public static void main(String[] args) {
        set();
        setWrong();
        setRejected();
        remove();
        looks();
        notSet();
        canInsert();
        Check.finish();
    }

    private static void set() {
        Check.promise(38);
        PrioritySearchTree x = Check.tree(50, 90, 20, 80, 70, 90, 10, 10, 0, 80, 99, 0);
        Check.due(6, () -> x.setWindow(0, 0, 99, 0, 24));
        Check.due(3, () -> x.setWindow(3, 20, 70, 80, 3));
        Check.due(0, () -> x.setWindow(1, 21, 49, 0, 1));
        Check.due(1, () -> x.setWindow(2, 99, 99, 0, 1));
        // In place of the earlier one.
        Check.due(2, () -> x.setWindow(3, 20, 70, 90, 2));
        Check.due(2, () -> x.pointsInWindow(3));
        Check.due(0, () -> x.roomInWindow(3));
        Check.due(6, x::size);
    }

    private static void setWrong() {
        Check.promise(38);
        PrioritySearchTree x = Check.tree(5, 5, 6, 6);
        for (int window : NO_WINDOWS) {
            Check.fails(Check.IOOBE, () -> x.setWindow(window, 0, 9, 0, 9));
            Check.fails(Check.IOOBE, () -> x.setWindow(window, 9, 0, -1, 0));
        }
        int[][] wrongs = {{-1, 9, 0, 9}, {0, 100, 0, 9}, {9, 8, 0, 9}, {0, 9, -1, 9}, {0, 9, 100, 9}, {0, 9, 0, 0},
            {0, 9, 0, 25}, {0, 9, 0, -1}, {0, 9, 0, Integer.MAX_VALUE}, {-1, 9, 0, 1}, {0, 100, 0, 1}};
        for (int[] wrong : wrongs) {
            Check.fails(Check.IAE, () -> x.setWindow(0, wrong[0], wrong[1], wrong[2], wrong[3]));
        }
        Check.due(false, () -> x.isWindowSet(0));
        Check.fails(Check.NSEE, x::rejectionReason);
    }

    private static void setRejected() {
        Check.promise(38);
        PrioritySearchTree x = Check.tree(5, 5, 6, 6, 7, 7);
        x.setWindow(2, 0, 9, 6, 2);
        Check.fails(Check.UOE, () -> x.setWindow(2, 0, 9, 0, 2));
        Check.due(PrioritySearchTree.WINDOW_FULL, x::rejectionReason);
        Check.due(2, x::rejectionDetail);
        Check.due("6,7", () -> Check.window(x, 2));
        Check.fails(Check.UOE, () -> x.setWindow(3, 0, 9, 0, 1));
        Check.due(3, x::rejectionDetail);
        Check.due(false, () -> x.isWindowSet(3));
        Check.due(3, () -> x.setWindow(2, 0, 9, 0, 3));
    }

    private static void remove() {
        Check.promise(39);
        PrioritySearchTree x = Check.tree(5, 5, 6, 6, 7, 7);
        x.setWindow(3, 0, 6, 0, 2);
        Check.fails(Check.UOE, () -> x.insert(0, 0));
        Check.due(2, () -> x.removeWindow(3));
        Check.due(false, () -> x.isWindowSet(3));
        Check.fails(Check.NSEE, () -> x.removeWindow(3));
        Check.due(0, () -> x.insert(0, 0));
        for (int window : NO_WINDOWS) {
            Check.fails(Check.IOOBE, () -> x.removeWindow(window));
        }
    }

    private static void looks() {
        PrioritySearchTree x = Check.tree(50, 90, 20, 80, 70, 90, 10, 10, 0, 80, 99, 0);
        x.setWindow(1, 10, 99, 10, 6);
        Check.promise(40);
        Check.due(true, () -> x.isWindowSet(1));
        Check.due(false, () -> x.isWindowSet(0));
        Check.due(false, () -> x.isWindowSet(3));
        Check.promise(41);
        Check.due(4, () -> x.pointsInWindow(1));
        Check.promise(42);
        Check.due(2, () -> x.roomInWindow(1));
        Check.promise(43);
        int[] keys = {10, 20, 50, 70};
        for (int i = 0; i < keys.length; i++) {
            int position = i;
            Check.due(keys[i], () -> x.windowKeyAt(1, position));
        }
        for (int wrong : new int[] {-1, 4, Integer.MIN_VALUE, Integer.MAX_VALUE}) {
            Check.fails(Check.NSEE, () -> x.windowKeyAt(1, wrong));
        }
        x.delete(20);
        x.changePriority(10, 9);
        x.moveKey(99, 9);
        x.insert(98, 10);
        Check.promise(41);
        Check.due(3, () -> x.pointsInWindow(1));
        Check.promise(42);
        Check.due(3, () -> x.roomInWindow(1));
        Check.promise(43);
        Check.due(50, () -> x.windowKeyAt(1, 0));
        Check.due(98, () -> x.windowKeyAt(1, 2));
    }

    private static void notSet() {
        PrioritySearchTree x = Check.tree(0, 0);
        for (int window : NO_WINDOWS) {
            Check.promise(40);
            Check.fails(Check.IOOBE, () -> x.isWindowSet(window));
            Check.promise(41);
            Check.fails(Check.IOOBE, () -> x.pointsInWindow(window));
            Check.promise(42);
            Check.fails(Check.IOOBE, () -> x.roomInWindow(window));
            Check.promise(43);
            Check.fails(Check.IOOBE, () -> x.windowKeyAt(window, 0));
            Check.fails(Check.IOOBE, () -> x.windowKeyAt(window, -1));
        }
        for (int i = 0; i < 4; i++) {
            int window = i;
            Check.promise(40);
            Check.due(false, () -> x.isWindowSet(window));
            Check.promise(41);
            Check.fails(Check.NSEE, () -> x.pointsInWindow(window));
            Check.promise(42);
            Check.fails(Check.NSEE, () -> x.roomInWindow(window));
            Check.promise(43);
            Check.fails(Check.NSEE, () -> x.windowKeyAt(window, 0));
        }
    }

    private static void canInsert() {
        Check.promise(44);
        PrioritySearchTree x = Check.tree(5, 5);
        x.setWindow(0, 0, 9, 5, 1);
        Check.due(true, () -> x.canInsert(10, 99));
        Check.due(true, () -> x.canInsert(0, 4));
        Check.due(false, () -> x.canInsert(0, 5));
        Check.due(false, () -> x.canInsert(5, 0));
        for (int wrong : new int[] {-1, 100, Integer.MIN_VALUE, Integer.MAX_VALUE}) {
            Check.fails(Check.IAE, () -> x.canInsert(wrong, 0));
            Check.fails(Check.IAE, () -> x.canInsert(0, wrong));
        }
        // The latest rejection stays as it is, and nothing is inserted.
        Check.fails(Check.NSEE, x::rejectionReason);
        Check.due(1, x::size);
        PrioritySearchTree full = Check.full(0);
        Check.due(false, () -> full.canInsert(50, 0));
        Check.fails(Check.UOE, () -> full.insert(50, 0));
        Check.due(false, () -> full.canInsert(0, 0));
        Check.due(PrioritySearchTree.POINT_LIMIT, full::rejectionReason);
        full.delete(3);
        Check.due(true, () -> full.canInsert(50, 0));
    }
}
