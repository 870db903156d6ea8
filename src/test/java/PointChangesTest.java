/** Promises 1 to 6. */
public final class PointChangesTest {
    public static void main(String[] args) {
        newObject();
        insert();
        insertRejected();
        delete();
        changePriority();
        moveKey();
        deleteRange();
        Check.finish();
    }

    private static void newObject() {
        Check.promise(1);
        PrioritySearchTree x = new PrioritySearchTree();
        Check.due(0, x::size);
        Check.due(-1, x::height);
        Check.due(0, x::rotationCount);
        Check.due("", () -> Check.written(x));
        for (int window = 0; window < 4; window++) {
            int index = window;
            Check.due(false, () -> x.isWindowSet(index));
        }
        Check.fails(Check.ISE, x::undo);
        Check.fails(Check.NSEE, x::rejectionReason);
        Check.due(1, () -> PrioritySearchTree.POINT_LIMIT);
        Check.due(2, () -> PrioritySearchTree.KEY_TAKEN);
        Check.due(3, () -> PrioritySearchTree.WINDOW_FULL);
        Check.due(4, () -> PrioritySearchTree.COMMAND_REJECTED);
    }

    private static void insert() {
        Check.promise(2);
        PrioritySearchTree x = new PrioritySearchTree();
        Check.due(0, () -> x.insert(12, 90));
        Check.due(0, () -> x.insert(3, 5));
        Check.due(0, () -> x.insert(40, 7));
        Check.due("((3:5)12:90(40:7))", () -> Check.written(x));
        Check.due(2, () -> x.insert(20, 95));
        Check.due("(((3:5)12:90)20:95(40:7))", () -> Check.written(x));
        // The same priority: the lower key belongs above.
        Check.due(2, () -> x.insert(11, 90));
        Check.due("(((3:5)11:90(12:90))20:95(40:7))", () -> Check.written(x));
        Check.due(1, () -> x.insert(99, 90));
        Check.due(0, () -> x.insert(0, 0));
        Check.due("((((0:0)3:5)11:90(12:90))20:95((40:7)99:90))", () -> Check.written(x));
        Check.due(5, x::rotationCount);
        Check.due(true, x::isConsistent);
    }

    private static void insertRejected() {
        Check.promise(2);
        PrioritySearchTree x = Check.tree(5, 50);
        for (int wrong : new int[] {-1, 100, Integer.MIN_VALUE, Integer.MAX_VALUE}) {
            Check.fails(Check.IAE, () -> x.insert(wrong, 0));
            Check.fails(Check.IAE, () -> x.insert(0, wrong));
            // IllegalArgumentException is listed ahead of the rejection.
            Check.fails(Check.IAE, () -> x.insert(5, wrong));
        }
        Check.fails(Check.NSEE, x::rejectionReason);
        Check.fails(Check.UOE, () -> x.insert(5, 50));
        Check.due(PrioritySearchTree.KEY_TAKEN, x::rejectionReason);
        Check.due(50, x::rejectionDetail);
        x.setWindow(2, 0, 9, 10, 1);
        x.setWindow(3, 0, 99, 0, 1);
        Check.fails(Check.UOE, () -> x.insert(9, 10));
        Check.due(PrioritySearchTree.WINDOW_FULL, x::rejectionReason);
        Check.due(2, x::rejectionDetail);
        Check.fails(Check.UOE, () -> x.insert(10, 10));
        Check.due(3, x::rejectionDetail);
        // KEY_TAKEN is named ahead of WINDOW_FULL.
        Check.fails(Check.UOE, () -> x.insert(5, 99));
        Check.due(PrioritySearchTree.KEY_TAKEN, x::rejectionReason);
        Check.due("(5:50)", () -> Check.written(x));
        PrioritySearchTree full = Check.full(7);
        full.setWindow(0, 0, 99, 0, 24);
        // POINT_LIMIT is named first.
        for (int key : new int[] {3, 50}) {
            Check.fails(Check.UOE, () -> full.insert(key, 1));
            Check.due(PrioritySearchTree.POINT_LIMIT, full::rejectionReason);
            Check.due(24, full::rejectionDetail);
        }
        Check.due(24, full::size);
    }

    private static void delete() {
        Check.promise(3);
        PrioritySearchTree x = Check.tree(50, 90, 20, 80, 70, 85, 10, 10, 30, 20, 60, 5, 80, 6);
        Check.due("(((10:10)20:80(30:20))50:90((60:5)70:85(80:6)))", () -> Check.written(x));
        for (int missing : new int[] {51, -1, 100, Integer.MIN_VALUE, Integer.MAX_VALUE}) {
            Check.fails(Check.NSEE, () -> x.delete(missing));
        }
        int made = x.rotationCount();
        Check.due(4, () -> x.delete(50));
        Check.due(made + 4, x::rotationCount);
        Check.due("(((10:10)20:80(30:20(60:5)))70:85(80:6))", () -> Check.written(x));
        Check.due(0, () -> x.delete(10));
        Check.due(4, () -> x.delete(70));
        Check.due("(20:80(30:20((60:5)80:6)))", () -> Check.written(x));
        Check.due(1, () -> x.delete(20));
        Check.due("(30:20((60:5)80:6))", () -> Check.written(x));
        Check.due(2, () -> x.delete(30));
        Check.due(1, () -> x.delete(80));
        Check.due(0, () -> x.delete(60));
        Check.fails(Check.NSEE, () -> x.delete(60));
        Check.due("", () -> Check.written(x));
        PrioritySearchTree longest = Check.full(1);
        longest.changePriority(23, 2);
        Check.due(23, () -> longest.delete(23));
        Check.due(1, () -> Check.fullToTheLeft().delete(23));
        // Of two children with the same priority, the one with the lower key comes up.
        PrioritySearchTree same = Check.tree(5, 9, 3, 7, 8, 7);
        Check.due(2, () -> same.delete(5));
        Check.due("(3:7(8:7))", () -> Check.written(same));
    }

    private static void changePriority() {
        Check.promise(4);
        PrioritySearchTree x = Check.tree(50, 90, 20, 80, 70, 85, 10, 10);
        Check.due(2, () -> x.changePriority(10, 99));
        Check.due("(10:99((20:80)50:90(70:85)))", () -> Check.written(x));
        Check.due(0, () -> x.changePriority(10, 99));
        Check.due(0, () -> x.changePriority(10, 91));
        Check.due(2, () -> x.changePriority(10, 0));
        Check.due("(((10:0)20:80)50:90(70:85))", () -> Check.written(x));
        // The same priority as the parent: only a lower key goes up.
        Check.due(0, () -> x.changePriority(70, 90));
        Check.due(1, () -> x.changePriority(20, 90));
        Check.due("((10:0)20:90(50:90(70:90)))", () -> Check.written(x));
        for (int missing : new int[] {51, -1, 100}) {
            Check.fails(Check.NSEE, () -> x.changePriority(missing, 0));
            Check.fails(Check.NSEE, () -> x.changePriority(missing, 100));
        }
        Check.fails(Check.IAE, () -> x.changePriority(50, 100));
        Check.fails(Check.IAE, () -> x.changePriority(50, -1));
        x.setWindow(1, 0, 99, 90, 3);
        Check.due(0, () -> x.changePriority(10, 89));
        Check.fails(Check.UOE, () -> x.changePriority(10, 90));
        Check.due(PrioritySearchTree.WINDOW_FULL, x::rejectionReason);
        Check.due(1, x::rejectionDetail);
        Check.fails(Check.IAE, () -> x.changePriority(10, 100));
        Check.due(89, () -> x.priorityOf(10));
        Check.due(23, () -> Check.full(1).changePriority(23, 2));
        Check.due(1, () -> Check.full(1).changePriority(0, 0));
        // A point that is in the window already does not fill it more.
        Check.due(2, () -> x.changePriority(70, 99));
        Check.due(true, x::isConsistent);
    }

    private static void moveKey() {
        Check.promise(5);
        PrioritySearchTree x = Check.tree(50, 90, 20, 80, 70, 85, 10, 10);
        // Two rotations down, and two up again.
        int made = x.rotationCount();
        Check.due(4, () -> x.moveKey(50, 60));
        Check.due(made + 4, x::rotationCount);
        Check.due("(((10:10)20:80)60:90(70:85))", () -> Check.written(x));
        Check.fails(Check.NSEE, () -> x.moveKey(50, 100));
        Check.fails(Check.NSEE, () -> x.moveKey(-1, 20));
        Check.fails(Check.IAE, () -> x.moveKey(60, 100));
        Check.fails(Check.IAE, () -> x.moveKey(60, -1));
        Check.fails(Check.UOE, () -> x.moveKey(60, 60));
        Check.due(PrioritySearchTree.KEY_TAKEN, x::rejectionReason);
        Check.due(90, x::rejectionDetail);
        x.setWindow(0, 0, 20, 0, 2);
        x.setWindow(3, 0, 9, 90, 1);
        Check.fails(Check.UOE, () -> x.moveKey(60, 20));
        Check.due(PrioritySearchTree.KEY_TAKEN, x::rejectionReason);
        Check.due(80, x::rejectionDetail);
        Check.fails(Check.UOE, () -> x.moveKey(60, 0));
        Check.due(PrioritySearchTree.WINDOW_FULL, x::rejectionReason);
        Check.due(0, x::rejectionDetail);
        // Inside a full window: it has the point with the new key only.
        Check.due(0, () -> x.moveKey(10, 19));
        Check.due("19,20", () -> Check.window(x, 0));
        Check.due(10, () -> x.priorityOf(19));
        // A full tree has room for a point that moves.
        PrioritySearchTree full = Check.full(3);
        Check.due(1, () -> full.moveKey(0, 99));
        Check.due(24, full::size);
        Check.due(99, full::greatestKey);
        Check.due(true, full::isConsistent);
    }

    private static void deleteRange() {
        Check.promise(6);
        PrioritySearchTree x = Check.tree(50, 90, 20, 80, 70, 85, 10, 10, 0, 1, 99, 2);
        int made = x.rotationCount();
        Check.due(3, () -> x.deleteRange(20, 70));
        Check.due("((0:1)10:10(99:2))", () -> Check.written(x));
        Check.due(made, x::rotationCount);
        Check.due(0, () -> x.deleteRange(11, 98));
        Check.due(1, () -> x.deleteRange(0, 0));
        Check.fails(Check.IAE, () -> x.deleteRange(5, 4));
        Check.fails(Check.IAE, () -> x.deleteRange(-1, 4));
        Check.fails(Check.IAE, () -> x.deleteRange(0, 100));
        Check.fails(Check.IAE, () -> x.deleteRange(Integer.MIN_VALUE, Integer.MAX_VALUE));
        Check.due(2, x::size);
        Check.due(2, () -> x.deleteRange(0, 99));
        Check.due(24, () -> Check.full(1).deleteRange(0, 99));
        Check.due(24, () -> Check.fullToTheLeft().deleteRange(0, 23));
        Check.due(0, () -> x.deleteRange(0, 99));
        Check.due(0, x::size);
    }
}
