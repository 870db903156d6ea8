/** The edges that the promises 45 to 51 name. */
final class TotalsBoundaries {
    private TotalsBoundaries() {
    }

    static void all() {
        rotations();
        meanDepth();
        leafShare();
        consistent();
        writeTree();
        writeWindow();
        outputAt();
    }

    private static void rotations() {
        Sentence.of(45, "Returns the number of rotations that have been made so far, without those of deleteRange.", () -> {
            PrioritySearchTree x = Check.tree(10, 10, 20, 20, 30, 30);
            Check.due(2, x::rotationCount);
            // The root, with points below it, goes without a rotation being counted; by delete it costs one.
            x.deleteRange(30, 30);
            Check.due(2, x::rotationCount);
            x.undo();
            Check.due(1, () -> x.delete(30));
            Check.due(3, x::rotationCount);
            Check.run(x, "r0-99;i1:1;i2:2");
            Check.due(4, x::rotationCount);
            Check.run(x, "r0-99");
            Check.due(4, x::rotationCount);
            PrioritySearchTree full = Check.fullToTheLeft();
            int made = full.rotationCount();
            full.deleteRange(1, 23);
            Check.due(made, full::rotationCount);
        });
        Sentence.of(45, "Returns the number of rotations.", () -> {
            PrioritySearchTree x = new PrioritySearchTree();
            Check.due(0, x::rotationCount);
            x.insert(5, 5);
            Check.due(0, x::rotationCount);
            x.insert(6, 6);
            Check.due(1, x::rotationCount);
            x.changePriority(5, 7);
            Check.due(2, x::rotationCount);
            x.moveKey(5, 7);
            Check.due(4, x::rotationCount);
            x.delete(7);
            Check.due(5, x::rotationCount);
            // Calls that are refused make no rotations, commands that are not executed neither.
            Check.outcome(() -> x.insert(6, 99));
            Check.run(x, "i7:7;i8:8;i8:8");
            Check.due(5, x::rotationCount);
            x.saveSnapshot();
            x.undo();
            Check.due(4, x::rotationCount);
            x.restoreSnapshot();
            Check.due(5, x::rotationCount);
        });
    }

    private static void meanDepth() {
        Sentence.of(46, "Returns the mean depth of all points: the sum of their depths divided by their number, both converted to"
                + " double.", () -> {
            Check.due(2.0 / 3.0, () -> Edges.ends().meanDepth());
            Check.due(1.0 / 2.0, () -> Check.tree(5, 5, 6, 6).meanDepth());
            Check.due(11.0 / 7.0, () -> Check.tree(50, 90, 20, 80, 70, 85, 10, 10, 30, 20, 80, 6, 0, 1).meanDepth());
        });
        Sentence.of(46, "Returns the mean depth.", () -> {
            Check.due(0.0, () -> Check.tree(0, 0).meanDepth());
            Check.due(11.5, () -> Check.full(7).meanDepth());
            Check.due(11.5, () -> Check.fullToTheLeft().meanDepth());
            PrioritySearchTree x = Check.full(7);
            x.delete(0);
            Check.due(11.0, x::meanDepth);
            x.deleteRange(2, 99);
            Check.due(0.0, x::meanDepth);
        });
        Edges.noPoints(46, Check.AE, "Throws `ArithmeticException` if there are no points", PrioritySearchTree::meanDepth);
    }

    private static void leafShare() {
        Sentence.of(47, "Returns the share of leaves among all points, both numbers converted to float.", () -> {
            Check.due(2f / 3f, () -> Edges.ends().leafShare());
            Check.due(1f / 2f, () -> Check.tree(5, 5, 6, 6).leafShare());
            Check.due(3f / 7f, () -> Check.tree(50, 90, 20, 80, 70, 85, 10, 10, 30, 20, 80, 6, 0, 1).leafShare());
        });
        Sentence.of(47, "Returns the share.", () -> {
            Check.due(1f, () -> Check.tree(99, 99).leafShare());
            Check.due(1f / 24f, () -> Check.full(7).leafShare());
            Check.due(1f / 24f, () -> Check.fullToTheLeft().leafShare());
            PrioritySearchTree most = new PrioritySearchTree();
            for (int key = 0; key < 24; key++) {
                most.insert(key, key % 2 == 0 ? 0 : 50);
            }
            Check.due(0.5f, most::leafShare);
            most.delete(1);
            Check.due(11f / 23f, most::leafShare);
        });
        Edges.noPoints(47, Check.AE, "Throws `ArithmeticException` if there are no points", PrioritySearchTree::leafShare);
    }

    /** That it answers false for wrong data is the matter of ConsistencyTest. */
    private static void consistent() {
        Sentence.of(48, "Checks the data: keys are in order in the tree, no point is above a point that belongs above it, the"
                + " numbers of points of subtrees are right, both ways to count and both ways to find the point with the greatest"
                + " priority agree for all ranges that begin at 0, and no window has more points than its limit.", () -> {
            PrioritySearchTree x = Twins.workedWithInput();
            String before = Twins.rest(Twins.workedWithInput());
            Check.due(true, x::isConsistent);
            // To check changes nothing.
            Check.due(before, () -> Twins.rest(x));
        });
        Sentence.of(48, "Returns whether all this is true.", () -> {
            Check.due(true, () -> new PrioritySearchTree().isConsistent());
            Check.due(true, () -> Check.tree(0, 0).isConsistent());
            Check.due(true, () -> Check.tree(99, 99).isConsistent());
            Check.due(true, () -> Edges.windows().isConsistent());
            for (PrioritySearchTree full : new PrioritySearchTree[] {Check.full(0), Check.full(99), Check.fullToTheLeft()}) {
                Check.due(true, full::isConsistent);
                // A full window, and after each kind of change.
                full.setWindow(0, 0, 99, 0, 24);
                Check.due(true, full::isConsistent);
                full.changePriority(12, 99);
                full.moveKey(12, 99);
                full.delete(0);
                Check.due(true, full::isConsistent);
                full.deleteRange(5, 10);
                Check.due(true, full::isConsistent);
                full.undo();
                Check.due(true, full::isConsistent);
                full.deleteRange(0, 99);
                Check.due(true, full::isConsistent);
            }
        });
    }

    private static void writeTree() {
        Sentence.of(49, "Writes the tree to the output, in place of the earlier output: for each tree \"(\", its left subtree, the"
                + " key, \":\", the priority, its right subtree and \")\"; an empty tree is written as nothing.", () -> {
            Check.due("(5:6)", () -> Check.written(Check.tree(5, 6)));
            Check.due("(0:0)", () -> Check.written(Check.tree(0, 0)));
            Check.due("(9:10)", () -> Check.written(Check.tree(9, 10)));
            Check.due("(99:99)", () -> Check.written(Check.tree(99, 99)));
            Check.due("((0:10)50:90(99:20))", () -> Check.written(Edges.ends()));
            Check.due("((0:1)1:2)", () -> Check.written(Check.tree(0, 1, 1, 2)));
            Check.due("(0:2(1:1))", () -> Check.written(Check.tree(0, 2, 1, 1)));
            // A shorter output in place of a longer one, and nothing in place of it.
            PrioritySearchTree x = Edges.windows();
            Check.due(20, x::writeTree);
            x.deleteRange(50, 99);
            Check.due(6, x::writeTree);
            Check.due("(0:10)", () -> Check.output(x, 6));
            Check.fails(Check.IOOBE, () -> x.outputAt(6));
            x.delete(0);
            Check.due(0, x::writeTree);
            Check.fails(Check.IOOBE, () -> x.outputAt(0));
            Check.due(0, () -> new PrioritySearchTree().writeTree());
        });
        Sentence.of(49, "An example is \"((3:5)12:90(40:7))\".", () -> {
            PrioritySearchTree x = Check.tree(12, 90, 3, 5, 40, 7);
            Check.due(18, x::writeTree);
            Check.due("((3:5)12:90(40:7))", () -> Check.output(x, 18));
        });
        Sentence.of(49, "Returns the length of the output.", () -> {
            Check.due(0, () -> new PrioritySearchTree().writeTree());
            Check.due(5, () -> Check.tree(0, 0).writeTree());
            Check.due(7, () -> Check.tree(99, 99).writeTree());
            // The longest output: 24 points, and all numbers have two digits.
            PrioritySearchTree right = new PrioritySearchTree();
            PrioritySearchTree left = new PrioritySearchTree();
            StringBuilder dueRight = new StringBuilder();
            StringBuilder dueLeft = new StringBuilder("(".repeat(24));
            for (int key = 76; key <= 99; key++) {
                right.insert(key, 99);
                left.insert(key, key);
                dueRight.append("(").append(key).append(":99");
                dueLeft.append(key).append(":").append(key).append(")");
            }
            Check.due(168, right::writeTree);
            Check.due(dueRight + ")".repeat(24), () -> Check.output(right, 168));
            Check.fails(Check.IOOBE, () -> right.outputAt(168));
            Check.due(168, left::writeTree);
            Check.due(dueLeft.toString(), () -> Check.output(left, 168));
        });
    }

    private static void writeWindow() {
        Edges.OfKey use = (x, window) -> x.writeWindow(window);
        Sentence.of(50, "Writes a window to the output, in place of the earlier output: the keys of its points in ascending order,"
                + " with a comma between two.", () -> {
            PrioritySearchTree x = Edges.windows();
            Check.due("0,50,99", () -> Check.window(x, 0));
            Check.due("50", () -> Check.window(x, 1));
            Check.fails(Check.IOOBE, () -> x.outputAt(2));
            Check.due("0,50", () -> Check.window(x, 3));
            // The edges of the range and of the priority.
            x.setWindow(3, 0, 99, 20, 3);
            Check.due("50,99", () -> Check.window(x, 3));
            x.setWindow(3, 0, 49, 10, 3);
            Check.due("0", () -> Check.window(x, 3));
            x.writeTree();
            Check.due(1, () -> x.writeWindow(3));
            Check.due('0', () -> x.outputAt(0));
            Check.fails(Check.IOOBE, () -> x.outputAt(1));
        });
        Sentence.of(50, "The output is empty if there are no points in it.", () -> {
            PrioritySearchTree x = Edges.windows();
            x.writeTree();
            Check.due(0, () -> x.writeWindow(2));
            Check.fails(Check.IOOBE, () -> x.outputAt(0));
            x.deleteRange(0, 99);
            for (int i = 0; i < 4; i++) {
                int window = i;
                Check.due(0, () -> x.writeWindow(window));
                Check.fails(Check.IOOBE, () -> x.outputAt(0));
            }
        });
        Edges.window(50, use, 7, 2, 0, 4);
        Sentence.of(50, "Returns the length of the output.", () -> {
            PrioritySearchTree full = new PrioritySearchTree();
            StringBuilder due = new StringBuilder();
            for (int key = 99; key > 75; key--) {
                full.insert(key, key);
                due.insert(0, (key == 76 ? "" : ",") + key);
            }
            full.setWindow(3, 0, 99, 0, 24);
            Check.due(71, () -> full.writeWindow(3));
            Check.due(due.toString(), () -> Check.output(full, 71));
            Check.fails(Check.IOOBE, () -> full.outputAt(71));
            full.setWindow(3, 76, 76, 0, 24);
            Check.due(2, () -> full.writeWindow(3));
            full.moveKey(76, 9);
            full.setWindow(3, 0, 9, 76, 24);
            Check.due(1, () -> full.writeWindow(3));
        });
        Edges.noWindow(50, use);
        Edges.notSet(50, use);
    }

    private static void outputAt() {
        Sentence.of(51, "Returns a character of the output.", () -> {
            PrioritySearchTree x = Edges.windows();
            x.writeWindow(0);
            String due = "0,50,99";
            for (int i = 0; i < due.length(); i++) {
                int index = i;
                Check.due(due.charAt(index), () -> x.outputAt(index));
            }
            // The output is what was written last, whatever changes after it.
            x.deleteRange(0, 99);
            x.removeWindow(0);
            Check.due("0,50,99", () -> Check.output(x, 7));
        });
        Sentence.of(51, "The output is empty at first.", () -> {
            PrioritySearchTree x = new PrioritySearchTree();
            Check.fails(Check.IOOBE, () -> x.outputAt(0));
            x.insert(5, 5);
            x.appendInput('d');
            Check.fails(Check.IOOBE, () -> x.outputAt(0));
        });
        Sentence.of(51, "- `index`: the index, from 0", () -> {
            PrioritySearchTree x = Check.tree(5, 6);
            x.writeTree();
            Check.due('(', () -> x.outputAt(0));
            Check.due(')', () -> x.outputAt(4));
            Check.fails(Check.IOOBE, () -> x.outputAt(-1));
            Check.fails(Check.IOOBE, () -> x.outputAt(5));
        });
        Sentence.of(51, "Returns the character.", () -> {
            PrioritySearchTree right = new PrioritySearchTree();
            for (int key = 76; key <= 99; key++) {
                right.insert(key, 99);
            }
            right.writeTree();
            Check.due('(', () -> right.outputAt(0));
            Check.due('7', () -> right.outputAt(1));
            Check.due('9', () -> right.outputAt(143));
            Check.due(')', () -> right.outputAt(144));
            Check.due(')', () -> right.outputAt(167));
        });
        Sentence.of(51, "Throws `IndexOutOfBoundsException` if there is no character at this index", () -> {
            for (int index : new int[] {-1, 8, 9, 168, Edges.MIN, Edges.MAX}) {
                // The output has the eight characters "10,20,30".
                Twins.refused(Check.IOOBE, Twins::workedWithInput, x -> x.outputAt(index));
                Check.fails(Check.IOOBE, () -> new PrioritySearchTree().outputAt(index));
            }
            Check.due('0', () -> Twins.worked().outputAt(7));
            // Behind a shorter output stands nothing of the longer one ahead of it.
            PrioritySearchTree x = Edges.windows();
            x.writeTree();
            x.writeWindow(1);
            Check.fails(Check.IOOBE, () -> x.outputAt(2));
            Check.fails(Check.IOOBE, () -> x.outputAt(19));
        });
    }
}
