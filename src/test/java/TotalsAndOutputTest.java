/** Promises 45 to 51. */
public final class TotalsAndOutputTest {
    public static void main(String[] args) {
        rotations();
        shares();
        consistent();
        writeTree();
        writeDeepest();
        writeWindow();
        outputAt();
        Check.finish();
    }

    private static void rotations() {
        Check.promise(45);
        PrioritySearchTree x = Check.tree(10, 10, 20, 20, 30, 30);
        Check.due(2, x::rotationCount);
        x.changePriority(10, 40);
        Check.due(4, x::rotationCount);
        x.moveKey(10, 25);
        Check.due(8, x::rotationCount);
        x.delete(25);
        Check.due(10, x::rotationCount);
        x.deleteRange(0, 99);
        Check.due(10, x::rotationCount);
        Check.run(x, "i1:1;i2:2;i3:3;d3;r0-99;d3");
        Check.due(10, x::rotationCount);
        Check.run(x, "i1:1;i2:2;d2;r0-99");
        Check.due(12, x::rotationCount);
        x.undo();
        Check.due(10, x::rotationCount);
    }

    private static void shares() {
        PrioritySearchTree x = Check.tree(50, 90, 20, 80, 70, 85, 10, 10, 30, 20, 80, 6, 0, 1);
        Check.promise(46);
        Check.due(11.0 / 7.0, x::meanDepth);
        Check.due(0.0, () -> Check.tree(3, 3).meanDepth());
        Check.due(11.5, () -> Check.full(3).meanDepth());
        Check.fails(Check.AE, () -> new PrioritySearchTree().meanDepth());
        Check.promise(47);
        Check.due(3f / 7f, x::leafShare);
        Check.due(1f, () -> Check.tree(3, 3).leafShare());
        Check.due(1f / 24f, () -> Check.full(3).leafShare());
        Check.fails(Check.AE, () -> new PrioritySearchTree().leafShare());
        x.delete(0);
        x.delete(80);
        Check.due(3f / 5f, x::leafShare);
        Check.promise(46);
        Check.due(6.0 / 5.0, x::meanDepth);
        Check.promise(47);
        x.deleteRange(0, 99);
        Check.fails(Check.AE, x::leafShare);
        Check.promise(46);
        Check.fails(Check.AE, x::meanDepth);
    }

    private static void consistent() {
        Check.promise(48);
        Check.due(true, () -> new PrioritySearchTree().isConsistent());
        PrioritySearchTree x = Check.full(9);
        Check.due(true, x::isConsistent);
        x.setWindow(0, 0, 99, 9, 24);
        x.moveKey(0, 99);
        x.changePriority(12, 99);
        x.deleteRange(3, 8);
        Check.due(true, x::isConsistent);
        x.undo();
        Check.due(true, x::isConsistent);
    }

    private static void writeTree() {
        Check.promise(49);
        PrioritySearchTree x = Check.tree(12, 90, 3, 5, 40, 7);
        Check.due(18, x::writeTree);
        Check.due("((3:5)12:90(40:7))", () -> Check.output(x, 18));
        Check.fails(Check.IOOBE, () -> x.outputAt(18));
        x.deleteRange(0, 99);
        Check.due(0, x::writeTree);
        Check.fails(Check.IOOBE, () -> x.outputAt(0));
        x.insert(0, 0);
        Check.due("(0:0)", () -> Check.written(x));
        PrioritySearchTree longest = new PrioritySearchTree();
        StringBuilder due = new StringBuilder();
        for (int key = 76; key <= 99; key++) {
            longest.insert(key, 99);
            due.append("(").append(key).append(":99");
        }
        Check.due(168, longest::writeTree);
        Check.due(due + ")".repeat(24), () -> Check.written(longest));
    }

    private static void writeDeepest() {
        StringBuilder due = new StringBuilder("(".repeat(24));
        for (int key = 0; key < 24; key++) {
            due.append(key).append(":").append(key).append(")");
        }
        Check.due(due.toString(), () -> Check.written(Check.fullToTheLeft()));
    }

    private static void writeWindow() {
        Check.promise(50);
        PrioritySearchTree x = Check.tree(50, 90, 20, 80, 70, 90, 10, 10, 0, 80, 9, 11);
        x.setWindow(1, 0, 60, 11, 9);
        Check.due(9, () -> x.writeWindow(1));
        Check.due("0,9,20,50", () -> Check.output(x, 9));
        x.setWindow(1, 50, 69, 11, 9);
        Check.due("50", () -> Check.window(x, 1));
        x.setWindow(1, 21, 49, 0, 9);
        Check.due(0, () -> x.writeWindow(1));
        Check.fails(Check.IOOBE, () -> x.outputAt(0));
        x.writeTree();
        char first = x.outputAt(0);
        for (int window : new int[] {-1, 4, Integer.MIN_VALUE, Integer.MAX_VALUE}) {
            Check.fails(Check.IOOBE, () -> x.writeWindow(window));
        }
        Check.fails(Check.NSEE, () -> x.writeWindow(0));
        // A call that throws leaves the output as it is.
        Check.due(first, () -> x.outputAt(0));
        Check.due("0,1,2,3,4,5,6,7,8,9,10,11,12,13,14,15,16,17,18,19,20,21,22,23", () -> {
            PrioritySearchTree full = Check.full(1);
            full.setWindow(3, 0, 99, 0, 24);
            return Check.window(full, 3);
        });
    }

    private static void outputAt() {
        Check.promise(51);
        PrioritySearchTree x = Check.tree(7, 42);
        Check.fails(Check.IOOBE, () -> x.outputAt(0));
        x.writeTree();
        String text = "(7:42)";
        for (int i = 0; i < text.length(); i++) {
            int index = i;
            Check.due(text.charAt(i), () -> x.outputAt(index));
        }
        for (int wrong : new int[] {-1, 6, 168, Integer.MIN_VALUE, Integer.MAX_VALUE}) {
            Check.fails(Check.IOOBE, () -> x.outputAt(wrong));
        }
        // Undo and the snapshot do not cover the output.
        x.saveSnapshot();
        x.undo();
        x.restoreSnapshot();
        Check.due('(', () -> x.outputAt(0));
    }
}
