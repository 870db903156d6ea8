/** The edges that the promises 1 to 6 name. */
final class ChangesBoundaries {
    private ChangesBoundaries() {
    }

    static void all() {
        newObject();
        insert();
        insertRefused();
        delete();
        changePriority();
        changePriorityRefused();
        moveKey();
        moveKeyRefused();
        deleteRange();
    }

    private static void newObject() {
        Sentence.of(1, "Creates a tree without points.", () -> {
            PrioritySearchTree x = new PrioritySearchTree();
            Check.due(0, x::size);
            Check.due(-1, x::height);
            Check.due(0, x::leafCount);
            Check.due(0, x::rotationCount);
            Check.due(0, () -> x.countInRange(0, 99));
            Check.due(0L, () -> x.sumInRange(0, 99));
            Check.due(false, () -> x.contains(0));
            Check.due(true, x::isConsistent);
            Check.fails(Check.NSEE, x::root);
            Check.fails(Check.ISE, x::undo);
            Check.fails(Check.ISE, x::restoreSnapshot);
            Check.fails(Check.IOOBE, () -> x.outputAt(0));
            Check.due("none none none", () -> Twins.rejection(x));
            Check.due("none", () -> Twins.offset(x));
            Check.due(0, x::writeTree);
            Check.due(1, () -> x.appendInput('d'));
            // Objects have nothing in common.
            x.insert(5, 5);
            Check.due(0, () -> new PrioritySearchTree().size());
        });
    }

    private static void insert() {
        Sentence.of(2, "Inserts a point.", () -> {
            PrioritySearchTree x = new PrioritySearchTree();
            x.insert(50, 50);
            Check.due("(50:50)", () -> Check.written(x));
            for (int key = 1; key < 24; key++) {
                x.insert(key, key);
            }
            Check.due(24, x::size);
            for (int i = 1; i < 24; i++) {
                int key = i;
                Check.due(key, () -> x.priorityOf(key));
            }
        });
        Sentence.of(2, "It becomes a leaf at the place where a search for its key ends, and is rotated up then.", () -> {
            PrioritySearchTree x = Check.tree(50, 90, 20, 80, 80, 80, 10, 70, 30, 70);
            Check.due(0, () -> x.insert(25, 69));
            Check.due("(((10:70)20:80((25:69)30:70))50:90(80:80))", () -> Check.written(x));
            Check.due(0, () -> x.insert(27, 69));
            Check.due(3, () -> x.insert(26, 70));
            Check.due("(((10:70)20:80((25:69)26:70((27:69)30:70)))50:90(80:80))", () -> Check.written(x));
            Check.due(3, () -> x.insert(0, 99));
            Check.due("(0:99(((10:70)20:80((25:69)26:70((27:69)30:70)))50:90(80:80)))", () -> Check.written(x));
            Check.due(0, () -> x.insert(99, 0));
            Check.due(true, () -> x.rightOf(80) == 99 && x.isConsistent());
        });
        Sentence.of(2, "- `key`: the key, 0 to 99", () -> {
            PrioritySearchTree x = Check.tree(50, 50);
            Check.due(0, () -> x.insert(0, 5));
            Check.due(0, () -> x.insert(99, 5));
            Check.due("((0:5)50:50(99:5))", () -> Check.written(x));
            for (int key : Edges.BEYOND) {
                Check.fails(Check.IAE, () -> x.insert(key, 5));
            }
            Check.due(3, x::size);
        });
        Sentence.of(2, "- `priority`: the priority, 0 to 99", () -> {
            PrioritySearchTree x = Check.tree(50, 50);
            Check.due(0, () -> x.insert(60, 0));
            Check.due(1, () -> x.insert(40, 99));
            Check.due("(40:99(50:50(60:0)))", () -> Check.written(x));
            for (int priority : Edges.BEYOND) {
                Check.fails(Check.IAE, () -> x.insert(30, priority));
            }
            Check.due(3, x::size);
        });
        Sentence.of(2, "Returns the number of rotations.", () -> {
            Check.due(0, () -> new PrioritySearchTree().insert(0, 0));
            Check.due(0, () -> Check.tree(5, 5).insert(6, 5));
            Check.due(1, () -> Check.tree(5, 5).insert(4, 5));
            Check.due(1, () -> Check.tree(5, 5).insert(6, 6));
            // The most: the 24th point, from the greatest depth to the root.
            PrioritySearchTree right = Check.full(5);
            right.delete(0);
            Check.due(23, () -> right.insert(99, 6));
            PrioritySearchTree left = Check.fullToTheLeft();
            left.delete(0);
            int made = left.rotationCount();
            Check.due(23, () -> left.insert(0, 99));
            Check.due(made + 23, left::rotationCount);
        });
    }

    private static void insertRefused() {
        Sentence.of(2, "Throws `IllegalArgumentException` if key or priority is out of range", () -> {
            for (int wrong : Edges.BEYOND) {
                Twins.refused(Check.IAE, Twins::workedWithInput, x -> x.insert(wrong, 50));
                Twins.refused(Check.IAE, Twins::workedWithInput, x -> x.insert(60, wrong));
                Check.fails(Check.IAE, () -> new PrioritySearchTree().insert(wrong, wrong));
                // Ahead of each reason for a rejection.
                Twins.refused(Check.IAE, Twins::full, x -> x.insert(wrong, 50));
                Twins.refused(Check.IAE, Twins::full, x -> x.insert(50, wrong));
                Twins.refused(Check.IAE, Twins::workedWithInput, x -> x.insert(20, wrong));
                Twins.refused(Check.IAE, Twins::workedWithInput, x -> x.insert(0, wrong));
            }
        });
        Sentence.of(2, "Throws `UnsupportedOperationException` if the call is rejected with the reason POINT_LIMIT, KEY_TAKEN or"
                + " WINDOW_FULL", () -> {
            Twins.rejected(PrioritySearchTree.POINT_LIMIT, 24, Twins::full, x -> x.insert(24, 7));
            Twins.rejected(PrioritySearchTree.POINT_LIMIT, 24, Twins::full, x -> x.insert(0, 0));
            Twins.rejected(PrioritySearchTree.KEY_TAKEN, 90, Twins::workedWithInput, x -> x.insert(50, 90));
            Twins.rejected(PrioritySearchTree.KEY_TAKEN, 80, Twins::workedWithInput, x -> x.insert(20, 99));
            Twins.rejected(PrioritySearchTree.WINDOW_FULL, 1, Twins::workedWithInput, x -> x.insert(49, 5));
            Twins.rejected(PrioritySearchTree.WINDOW_FULL, 1, Twins::workedWithInput, x -> x.insert(0, 99));
            Twins.rejected(PrioritySearchTree.WINDOW_FULL, 2, Twins::workedWithInput, x -> x.insert(60, 0));
            Twins.rejected(PrioritySearchTree.WINDOW_FULL, 2, Twins::workedWithInput, x -> x.insert(99, 0));
            // Right beside the windows there is room.
            PrioritySearchTree x = Twins.worked();
            Check.due(0, () -> x.insert(49, 4));
            Check.due(0, () -> x.insert(51, 5));
            Check.due(0, () -> x.insert(59, 0));
            Check.due("2 80 none", () -> Twins.rejection(x));
        });
    }

    private static void delete() {
        Sentence.of(3, "Deletes a point.", () -> {
            PrioritySearchTree x = Edges.ends();
            x.delete(50);
            Check.due(false, () -> x.contains(50));
            Check.due("((0:10)99:20)", () -> Check.written(x));
            x.delete(99);
            Check.due("(0:10)", () -> Check.written(x));
            x.delete(0);
            Check.due(0, x::size);
            Check.due("", () -> Check.written(x));
            // The last of 24.
            PrioritySearchTree full = Check.full(7);
            for (int i = 23; i >= 0; i--) {
                int key = (i * 7 + 3) % 24;
                int left = i;
                full.delete(key);
                Check.due(left, full::size);
                Check.due(true, full::isConsistent);
            }
        });
        Sentence.of(3, "It is rotated down until it is a leaf, and is removed then.", () -> {
            // With children on both sides, on one side alone, and as a leaf already.
            PrioritySearchTree x = Check.tree(50, 90, 20, 80, 70, 85, 10, 10, 30, 20, 60, 5, 80, 6);
            Check.due(4, () -> x.delete(50));
            Check.due("(((10:10)20:80(30:20(60:5)))70:85(80:6))", () -> Check.written(x));
            Check.due(1, () -> x.delete(30));
            Check.due("(((10:10)20:80(60:5))70:85(80:6))", () -> Check.written(x));
            Check.due(0, () -> x.delete(60));
            Check.due(1, () -> x.delete(20));
            Check.due("((10:10)70:85(80:6))", () -> Check.written(x));
        });
        Edges.keyOfPoint(3, "- `key`: the key of a point", (x, key) -> x.delete(key), 0, 0);
        Sentence.of(3, "Returns the number of rotations.", () -> {
            Check.due(0, () -> Check.tree(5, 5).delete(5));
            Check.due(1, () -> Check.tree(5, 5, 6, 6).delete(6));
            Check.due(2, () -> Edges.ends().delete(50));
            Check.due(1, () -> Check.full(5).delete(0));
            PrioritySearchTree longest = Check.full(5);
            longest.changePriority(23, 6);
            int made = longest.rotationCount();
            Check.due(23, () -> longest.delete(23));
            Check.due(made + 23, longest::rotationCount);
        });
        Edges.noPoint(3, (x, key) -> x.delete(key));
    }

    private static void changePriority() {
        Sentence.of(4, "Changes the priority of a point, which is rotated up or down then.", () -> {
            PrioritySearchTree x = Check.tree(50, 50, 40, 40, 60, 40);
            // Not at all below its parent, up, down, and not at all above its children.
            Check.due(0, () -> x.changePriority(60, 50));
            Check.due(1, () -> x.changePriority(60, 51));
            Check.due("(((40:40)50:50)60:51)", () -> Check.written(x));
            Check.due(0, () -> x.changePriority(60, 99));
            Check.due(1, () -> x.changePriority(60, 50));
            Check.due("((40:40)50:50(60:50))", () -> Check.written(x));
            Check.due(1, () -> x.changePriority(40, 50));
            Check.due("(40:50(50:50(60:50)))", () -> Check.written(x));
            Check.due(0, () -> x.changePriority(40, 50));
            Check.due(1, () -> x.changePriority(40, 0));
            Check.due("((40:0)50:50(60:50))", () -> Check.written(x));
        });
        Edges.keyOfPoint(4, "- `key`: the key of a point", (x, key) -> x.changePriority(key, 99), 1, 1);
        Sentence.of(4, "- `priority`: the new priority, 0 to 99", () -> {
            PrioritySearchTree x = Edges.ends();
            Check.due(1, () -> x.changePriority(99, 99));
            Check.due(99, () -> x.priorityOf(99));
            Check.due(1, () -> x.changePriority(99, 0));
            Check.due(0, () -> x.priorityOf(99));
            Check.due(0, () -> x.changePriority(99, 0));
            for (int priority : Edges.BEYOND) {
                Check.fails(Check.IAE, () -> x.changePriority(99, priority));
            }
            Check.due(0, () -> x.priorityOf(99));
        });
        Sentence.of(4, "Returns the number of rotations.", () -> {
            Check.due(0, () -> Check.tree(5, 5).changePriority(5, 99));
            Check.due(0, () -> Check.tree(5, 5).changePriority(5, 5));
            PrioritySearchTree right = Check.full(5);
            Check.due(0, () -> right.changePriority(23, 5));
            Check.due(23, () -> right.changePriority(23, 6));
            Check.due(23, () -> right.changePriority(23, 5));
            Check.due(22, () -> right.changePriority(22, 99));
            PrioritySearchTree left = Check.fullToTheLeft();
            int made = left.rotationCount();
            Check.due(23, () -> left.changePriority(0, 23));
            Check.due(made + 23, left::rotationCount);
        });
    }

    private static void changePriorityRefused() {
        Edges.noPoint(4, "Throws `NoSuchElementException` if there is no point with this key", (x, key) ->
                x.changePriority(key, 50), () -> {
            // Ahead of the priority.
            Twins.refused(Check.NSEE, Twins::workedWithInput, x -> x.changePriority(11, 100));
            Twins.refused(Check.NSEE, Twins::workedWithInput, x -> x.changePriority(100, -1));
        });
        Sentence.of(4, "Throws `IllegalArgumentException` if priority is out of range", () -> {
            for (int wrong : Edges.BEYOND) {
                Twins.refused(Check.IAE, Twins::workedWithInput, x -> x.changePriority(10, wrong));
                Twins.refused(Check.IAE, Twins::full, x -> x.changePriority(23, wrong));
            }
        });
        Sentence.of(4, "Throws `UnsupportedOperationException` if the call is rejected with the reason WINDOW_FULL", () -> {
            Twins.rejected(PrioritySearchTree.WINDOW_FULL, 1, ChangesBoundaries::besideFull, x -> x.changePriority(40, 5));
            Twins.rejected(PrioritySearchTree.WINDOW_FULL, 1, ChangesBoundaries::besideFull, x -> x.changePriority(40, 99));
            Twins.rejected(PrioritySearchTree.WINDOW_FULL, 0, () -> {
                PrioritySearchTree x = besideFull();
                x.setWindow(0, 0, 99, 81, 2);
                return x;
            }, x -> x.changePriority(40, 81));
            // One less is not in the window; points of the window do not come to it once more; one that goes makes room.
            PrioritySearchTree x = besideFull();
            Check.due(0, () -> x.changePriority(40, 0));
            Check.due(0, () -> x.changePriority(40, 4));
            Check.due(0, () -> x.changePriority(10, 11));
            Check.due(0, () -> x.changePriority(10, 5));
            Check.due(0, () -> x.changePriority(10, 4));
            Check.due(1, () -> x.roomInWindow(1));
            Check.due(0, () -> x.changePriority(40, 5));
            Check.due(0, () -> x.roomInWindow(1));
            Twins.rejected(PrioritySearchTree.WINDOW_FULL, 0, () -> {
                PrioritySearchTree full = Twins.full();
                full.setWindow(0, 0, 99, 8, 1);
                full.changePriority(23, 8);
                return full;
            }, full -> full.changePriority(0, 8));
        });
    }

    /** The point 40:4 beside the full window 1, which begins at the priority 5. */
    private static PrioritySearchTree besideFull() {
        PrioritySearchTree x = Twins.workedWithInput();
        x.insert(40, 4);
        return x;
    }

    private static void moveKey() {
        Sentence.of(5, "Moves a point to another key: the point is deleted, and a point with the other key and the same priority"
                + " is inserted.", () -> {
            PrioritySearchTree x = Edges.ends();
            Check.due(4, () -> x.moveKey(50, 98));
            Check.due("((0:10)98:90(99:20))", () -> Check.written(x));
            Check.due(false, () -> x.contains(50));
            Check.due(90, () -> x.priorityOf(98));
            Check.due(3, x::size);
            // The only point, and one of 24: there is room for it.
            PrioritySearchTree one = Check.tree(0, 0);
            Check.due(0, () -> one.moveKey(0, 99));
            Check.due("(99:0)", () -> Check.written(one));
            PrioritySearchTree full = Check.full(7);
            Check.due(1, () -> full.moveKey(0, 99));
            Check.due(24, full::size);
            Check.due(7, () -> full.priorityOf(99));
        });
        Edges.keyOfPoint(5, "- `key`: the key of a point", (x, key) -> x.moveKey(key, 51), 0, 0);
        Sentence.of(5, "- `newKey`: the other key, 0 to 99", () -> {
            PrioritySearchTree x = Check.tree(50, 50, 40, 40);
            Check.due(0, () -> x.moveKey(40, 0));
            Check.due(0, () -> x.moveKey(0, 99));
            Check.due("(50:50(99:40))", () -> Check.written(x));
            for (int key : Edges.BEYOND) {
                Check.fails(Check.IAE, () -> x.moveKey(99, key));
            }
            // The keys right beside its own.
            x.moveKey(99, 98);
            x.moveKey(98, 99);
            Check.due("(50:50(99:40))", () -> Check.written(x));
        });
        Sentence.of(5, "Returns the number of rotations of both steps.", () -> {
            Check.due(0, () -> Edges.ends().moveKey(0, 1));
            PrioritySearchTree x = Edges.ends();
            int made = x.rotationCount();
            Check.due(4, () -> x.moveKey(50, 51));
            Check.due(made + 4, x::rotationCount);
            PrioritySearchTree longest = Check.full(5);
            longest.changePriority(23, 6);
            Check.due(46, () -> longest.moveKey(23, 99));
            Check.due(46, () -> longest.moveKey(99, 24));
        });
    }

    private static void moveKeyRefused() {
        Edges.noPoint(5, "Throws `NoSuchElementException` if there is no point with this key", (x, key) -> x.moveKey(key, 60),
                () -> {
            // Ahead of a new key that is out of range, taken, in a full window, or the same.
            for (int other : new int[] {-1, 100, 50, 0, 11}) {
                Twins.refused(Check.NSEE, Twins::workedWithInput, x -> x.moveKey(11, other));
            }
        });
        Sentence.of(5, "Throws `IllegalArgumentException` if newKey is out of range", () -> {
            for (int wrong : Edges.BEYOND) {
                Twins.refused(Check.IAE, Twins::workedWithInput, x -> x.moveKey(10, wrong));
                Twins.refused(Check.IAE, Twins::full, x -> x.moveKey(23, wrong));
            }
        });
        Sentence.of(5, "Throws `UnsupportedOperationException` if the call is rejected with the reason KEY_TAKEN or WINDOW_FULL",
                () -> {
            Twins.rejected(PrioritySearchTree.KEY_TAKEN, 10, Twins::workedWithInput, x -> x.moveKey(10, 10));
            Twins.rejected(PrioritySearchTree.KEY_TAKEN, 80, Twins::workedWithInput, x -> x.moveKey(10, 20));
            Twins.rejected(PrioritySearchTree.KEY_TAKEN, 85, Twins::workedWithInput, x -> x.moveKey(50, 70));
            Twins.rejected(PrioritySearchTree.WINDOW_FULL, 1, Twins::workedWithInput, x -> x.moveKey(50, 0));
            Twins.rejected(PrioritySearchTree.WINDOW_FULL, 1, Twins::workedWithInput, x -> x.moveKey(50, 49));
            Twins.rejected(PrioritySearchTree.WINDOW_FULL, 2, Twins::workedWithInput, x -> x.moveKey(50, 60));
            Twins.rejected(PrioritySearchTree.WINDOW_FULL, 2, Twins::workedWithInput, x -> x.moveKey(10, 99));
            Twins.rejected(PrioritySearchTree.WINDOW_FULL, 1, Twins::workedWithInput, x -> x.moveKey(70, 0));
            Twins.rejected(PrioritySearchTree.KEY_TAKEN, 7, Twins::full, x -> x.moveKey(0, 23));
            // Inside of a full window, out of it, and right beside another one.
            PrioritySearchTree x = Twins.worked();
            Check.due(0, () -> x.moveKey(10, 0));
            Check.due(0, () -> x.moveKey(70, 60));
            Check.due(0, () -> x.moveKey(60, 99));
            Check.due(0, () -> x.moveKey(99, 59));
            Check.due(0, () -> x.moveKey(0, 60));
            Check.due("20,30", () -> Check.window(x, 1));
            Check.due("60", () -> Check.window(x, 2));
        });
    }

    private static void deleteRange() {
        Edges.OfRange use = (x, low, high) -> x.deleteRange(low, high);
        Sentence.of(6, "Deletes all points in a range of keys, without rotations being counted.", () -> {
            PrioritySearchTree x = Check.tree(50, 90, 20, 80, 70, 85, 19, 10, 51, 20, 0, 5, 99, 6);
            int made = x.rotationCount();
            Check.due(2, () -> x.deleteRange(20, 50));
            Check.due("((((0:5)19:10)51:20)70:85(99:6))", () -> Check.written(x));
            Check.due(made, x::rotationCount);
            Check.due(2, () -> x.deleteRange(0, 50));
            Check.due(3, () -> x.deleteRange(51, 99));
            Check.due(made, x::rotationCount);
            Check.due(0, x::size);
            Check.due(0, () -> x.deleteRange(0, 99));
            // All 24, all but one at either end, and the ones between.
            for (int[] range : new int[][] {{0, 23, 24}, {0, 99, 24}, {1, 99, 23}, {0, 22, 23}, {1, 22, 22}, {12, 12, 1}}) {
                for (PrioritySearchTree full : new PrioritySearchTree[] {Check.full(7), Check.fullToTheLeft()}) {
                    int before = full.rotationCount();
                    Check.due(range[2], () -> full.deleteRange(range[0], range[1]));
                    Check.due(24 - range[2], full::size);
                    Check.due(before, full::rotationCount);
                    Check.due(true, full::isConsistent);
                }
            }
        });
        Edges.low(6, "- `low`: the lowest key of the range, 0 to 99", use, 3, 1);
        Edges.high(6, "- `high`: the greatest key of the range, 0 to 99", use, 1, 3);
        Sentence.of(6, "Returns the number of deleted points.", () -> {
            Check.due(0, () -> new PrioritySearchTree().deleteRange(0, 99));
            Check.due(0, () -> Edges.ends().deleteRange(1, 49));
            Check.due(0, () -> Edges.ends().deleteRange(51, 98));
            Check.due(1, () -> Edges.ends().deleteRange(1, 98));
            Check.due(2, () -> Edges.ends().deleteRange(0, 98));
            Check.due(2, () -> Edges.ends().deleteRange(1, 99));
            Check.due(24, () -> Check.full(7).deleteRange(0, 23));
            Check.due(23, () -> Check.full(7).deleteRange(0, 22));
        });
        Edges.wrongRange(6, use);
    }
}
