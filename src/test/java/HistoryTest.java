/** Promises 55 to 60. */
public final class HistoryTest {
    public static void main(String[] args) {
        rejections();
        cause();
        undoEach();
        undoEight();
        undoWithout();
        snapshot();
        snapshotAndUndo();
        Check.finish();
    }

    private static void rejections() {
        PrioritySearchTree x = Check.tree(5, 50);
        Check.promise(55);
        Check.fails(Check.NSEE, x::rejectionReason);
        Check.promise(56);
        Check.fails(Check.NSEE, x::rejectionDetail);
        Check.promise(57);
        Check.fails(Check.NSEE, x::causeReason);
        Check.fails(Check.UOE, () -> x.insert(5, 1));
        x.insert(6, 60);
        x.undo();
        x.saveSnapshot();
        x.restoreSnapshot();
        Check.fails(Check.IAE, () -> x.insert(100, 100));
        x.canInsert(5, 5);
        // What neither is rejected nor covers it leaves the latest rejection as it is.
        Check.promise(55);
        Check.due(PrioritySearchTree.KEY_TAKEN, x::rejectionReason);
        Check.promise(56);
        Check.due(50, x::rejectionDetail);
        x.setWindow(1, 0, 9, 0, 1);
        Check.fails(Check.UOE, () -> x.insert(6, 1));
        Check.due(1, x::rejectionDetail);
        Check.promise(55);
        Check.due(PrioritySearchTree.WINDOW_FULL, x::rejectionReason);
    }

    private static void cause() {
        Check.promise(57);
        PrioritySearchTree x = Check.tree(5, 50);
        Check.fails(Check.UOE, () -> x.insert(5, 1));
        Check.fails(Check.NSEE, x::causeReason);
        Check.due(Check.UOE, () -> Check.run(x, "d5;i5:2;i5:3"));
        Check.due(PrioritySearchTree.KEY_TAKEN, x::causeReason);
        Check.due(2, x::rejectionDetail);
        x.setWindow(1, 0, 9, 0, 1);
        Check.due(Check.UOE, () -> Check.run(x, "i6:3"));
        Check.due(PrioritySearchTree.WINDOW_FULL, x::causeReason);
        Check.due(0, x::rejectionDetail);
        Check.fails(Check.UOE, () -> x.insert(5, 1));
        Check.fails(Check.NSEE, x::causeReason);
        PrioritySearchTree full = Check.full(2);
        Check.due(Check.UOE, () -> Check.run(full, "i50:3"));
        Check.due(PrioritySearchTree.POINT_LIMIT, full::causeReason);
    }

    private static void undoEach() {
        Check.promise(58);
        PrioritySearchTree x = Check.tree(10, 10, 20, 20);
        x.setWindow(0, 9, 50, 9, 5);
        String before = Check.written(x);
        int rotations = x.rotationCount();
        Check.Call[] changes = {() -> x.insert(30, 30), () -> x.delete(20), () -> x.changePriority(10, 99),
            () -> x.moveKey(20, 5), () -> x.deleteRange(0, 99), () -> x.setWindow(0, 11, 12, 11, 3),
            () -> x.removeWindow(0), () -> Check.run(x, "d10;x0;i3:99")};
        for (Check.Call change : changes) {
            change.answer();
            Check.due(3, x::undo);
            Check.due(before, () -> Check.written(x));
            Check.due(rotations, x::rotationCount);
            Check.due("10,20", () -> Check.window(x, 0));
            Check.due(3, () -> x.roomInWindow(0));
            Check.due(true, x::isConsistent);
        }
        // A change that changes nothing is a change too.
        x.deleteRange(99, 99);
        x.changePriority(10, 10);
        Check.due(4, x::undo);
        Check.due(3, x::undo);
    }

    private static void undoEight() {
        Check.promise(58);
        PrioritySearchTree x = new PrioritySearchTree();
        for (int key = 0; key < 20; key++) {
            x.insert(key, key);
        }
        for (int left = 7; left >= 0; left--) {
            Check.due(left, x::undo);
        }
        Check.fails(Check.ISE, x::undo);
        Check.due(12, x::size);
        Check.due(11, x::root);
        Check.due(11, x::rotationCount);
        // Undone changes give way to new ones.
        for (int key = 50; key < 53; key++) {
            x.insert(key, key);
        }
        Check.due(2, x::undo);
        x.delete(50);
        Check.due(2, x::undo);
        Check.due(1, x::undo);
        Check.due(0, x::undo);
        Check.fails(Check.ISE, x::undo);
        Check.due(12, x::size);
    }

    /** Calls that throw, and calls that are no changes, leave the history as it is. */
    private static void undoWithout() {
        Check.promise(58);
        PrioritySearchTree x = new PrioritySearchTree();
        Check.fails(Check.ISE, x::undo);
        x.insert(1, 1);
        Check.fails(Check.UOE, () -> x.insert(1, 1));
        Check.fails(Check.NSEE, () -> x.delete(2));
        Check.fails(Check.IAE, () -> x.changePriority(1, 100));
        Check.fails(Check.UOE, () -> x.moveKey(1, 1));
        Check.fails(Check.IAE, () -> x.deleteRange(2, 1));
        Check.fails(Check.IOOBE, () -> x.setWindow(4, 0, 0, 0, 1));
        Check.fails(Check.NSEE, () -> x.removeWindow(0));
        Check.due(Check.ISE, () -> Check.run(x, "d1;d1"));
        Check.due(Check.UOE, () -> Check.run(x, "i1:1"));
        Check.due(Check.IAE, () -> Check.run(x, "i1"));
        x.writeTree();
        x.saveSnapshot();
        x.canInsert(2, 2);
        Check.append(x, "d1");
        Check.due(0, x::undo);
        Check.due(0, x::size);
        // Undo does not cover the input.
        Check.fails(Check.ISE, x::execute);
    }

    private static void snapshot() {
        PrioritySearchTree x = Check.tree(10, 10, 20, 20);
        Check.promise(60);
        Check.fails(Check.ISE, x::restoreSnapshot);
        Check.due(2, x::size);
        x.setWindow(2, 0, 99, 0, 3);
        Check.promise(59);
        Check.due(2, x::saveSnapshot);
        x.insert(30, 30);
        x.removeWindow(2);
        Check.promise(60);
        Check.due(2, x::restoreSnapshot);
        Check.due("((10:10)20:20)", () -> Check.written(x));
        Check.due(1, x::rotationCount);
        Check.due(1, () -> x.roomInWindow(2));
        Check.fails(Check.ISE, x::undo);
        x.deleteRange(0, 99);
        // The snapshot is kept.
        Check.due(2, x::restoreSnapshot);
        Check.due("((10:10)20:20)", () -> Check.written(x));
        x.insert(5, 5);
        Check.promise(59);
        Check.due(3, x::saveSnapshot);
        x.delete(5);
        Check.promise(60);
        Check.due(3, x::restoreSnapshot);
        Check.due(0, () -> new PrioritySearchTree().saveSnapshot());
    }

    private static void snapshotAndUndo() {
        Check.promise(59);
        PrioritySearchTree x = Check.tree(10, 10, 20, 20);
        x.saveSnapshot();
        // Saving is no change, and undo does not touch the snapshot.
        Check.due(1, x::undo);
        Check.due(0, x::undo);
        Check.promise(60);
        Check.due(2, x::restoreSnapshot);
        Check.due("((10:10)20:20)", () -> Check.written(x));
        x.delete(10);
        Check.due(0, x::undo);
        Check.due(2, x::size);
        Check.append(x, "d1");
        x.restoreSnapshot();
        Check.due(3, () -> x.appendInput('0'));
        Check.due(1, x::execute);
        Check.due("(20:20)", () -> Check.written(x));
    }
}
