import java.util.function.IntSupplier;

/** The edges that the sentences of "Terms" name, from "Points" to "Windows". */
final class TermsBoundaries {
    private TermsBoundaries() {
    }

    private static void terms(String sentence, Runnable test) {
        Sentence.of(Sentence.TERMS, sentence, test);
    }

    static void all() {
        points();
        order();
        rotations();
        windows();
        limits();
    }

    private static void points() {
        terms("There are at most 24 points.", () -> {
            PrioritySearchTree x = new PrioritySearchTree();
            for (int key = 0; key < 24; key++) {
                Check.due(true, () -> x.canInsert(99, 0));
                x.insert(key, 50);
            }
            Check.due(24, x::size);
            Check.due(false, () -> x.canInsert(99, 0));
            Check.fails(Check.UOE, () -> x.insert(99, 0));
            Check.due(Check.UOE, () -> Check.run(x, "i99:0"));
            Check.due(24, x::size);
            // With all places taken, points still change and move.
            Check.due(23, () -> x.changePriority(23, 51));
            Check.due(46, () -> x.moveKey(23, 24));
            Check.due(24, x::size);
            // One place becomes free, and is taken again.
            x.delete(0);
            Check.due(0, () -> x.insert(99, 0));
            Check.due(24, x::size);
            Check.fails(Check.UOE, () -> x.insert(98, 0));
            Check.due(2, () -> Check.run(x, "d99;i98:0"));
            Check.due(24, x::size);
            Check.due(true, x::isConsistent);
        });
        terms("A point has a key and a priority, both from 0 to 99.", () -> {
            PrioritySearchTree x = Check.tree(0, 0, 99, 99, 1, 99, 98, 0);
            Check.due("((0:0)1:99((98:0)99:99))", () -> Check.written(x));
            for (int wrong : new int[] {-1, 100}) {
                Check.fails(Check.IAE, () -> x.insert(wrong, 50));
                Check.fails(Check.IAE, () -> x.insert(50, wrong));
                Check.fails(Check.IAE, () -> x.changePriority(0, wrong));
                Check.fails(Check.IAE, () -> x.moveKey(0, wrong));
            }
            Check.due("((0:0)1:99((98:0)99:99))", () -> Check.written(x));
        });
        terms("No two points have the same key.", () -> {
            PrioritySearchTree x = Check.tree(0, 5, 99, 5, 50, 5);
            for (int key : new int[] {0, 50, 99}) {
                Check.fails(Check.UOE, () -> x.insert(key, 5));
                Check.fails(Check.UOE, () -> x.insert(key, 6));
                Check.fails(Check.UOE, () -> x.moveKey(0, key));
                Check.due(Check.UOE, () -> Check.run(x, "m99>" + key));
            }
            Check.due(3, x::size);
            Check.due("(0:5(50:5(99:5)))", () -> Check.written(x));
            x.delete(50);
            Check.due(2, () -> x.insert(50, 6));
        });
    }

    private static void order() {
        terms("All keys of the left subtree of a point are lower than its key, and all keys of its right subtree are greater.",
                () -> {
            PrioritySearchTree left = Check.fullToTheLeft();
            PrioritySearchTree right = Check.full(5);
            for (int i = 1; i < 24; i++) {
                int key = i;
                Check.due(key - 1, () -> left.leftOf(key));
                Check.due(false, () -> left.hasRight(key));
                Check.due(key, () -> right.rightOf(key - 1));
                Check.due(false, () -> right.hasLeft(key));
            }
            // Keys right beside one another, on either side.
            Check.due("((49:5)50:9(51:5))", () -> Check.written(Check.tree(50, 9, 51, 5, 49, 5)));
            Check.due("((0:5)50:9(99:5))", () -> Check.written(Check.tree(50, 9, 99, 5, 0, 5)));
        });
        terms("A point belongs above another one if it has a greater priority, or the same priority and a lower key.", () -> {
            Check.due("(6:6(7:5))", () -> Check.written(Check.tree(7, 5, 6, 6)));
            Check.due("((6:5)7:6)", () -> Check.written(Check.tree(7, 6, 6, 5)));
            Check.due("(6:5(7:5))", () -> Check.written(Check.tree(7, 5, 6, 5)));
            Check.due("(6:5(7:5))", () -> Check.written(Check.tree(6, 5, 7, 5)));
            Check.due("(0:0(99:0))", () -> Check.written(Check.tree(99, 0, 0, 0)));
            Check.due("(0:99(99:99))", () -> Check.written(Check.tree(99, 99, 0, 99)));
            Check.due("((0:98)99:99)", () -> Check.written(Check.tree(99, 99, 0, 98)));
        });
        terms("A child never belongs above its parent, except while points are rotated.", () -> {
            for (int points = 1; points <= 24; points++) {
                childrenBelongBelow(mixed(points));
            }
            // Each on a tree of its own: an object is used for 512 calls, and to look at all points takes many.
            Twins.Use[] changes = {x -> x.changePriority(40, 99), x -> x.changePriority(40, 0), x -> x.moveKey(x.root(), 99),
                x -> x.delete(x.root()), x -> x.deleteRange(20, 60), x -> x.delete(x.root()) + x.undo()};
            for (Twins.Use change : changes) {
                PrioritySearchTree x = mixed(24);
                change.of(x);
                childrenBelongBelow(x);
            }
        });
    }

    /** Points in no order, with five priorities. */
    private static PrioritySearchTree mixed(int points) {
        PrioritySearchTree x = new PrioritySearchTree();
        for (int i = 0; i < points; i++) {
            x.insert(i * 29 % 24 * 4, i * 7 % 5 * 20);
        }
        return x;
    }

    private static void childrenBelongBelow(PrioritySearchTree x) {
        for (int i = 0; i < x.size(); i++) {
            int key = x.keyAt(i);
            if (key != x.root()) {
                int parent = x.parentOf(key);
                int difference = x.priorityOf(parent) - x.priorityOf(key);
                Check.due("point " + key + " below " + parent, difference > 0 || difference == 0 && parent < key, true);
            }
        }
    }

    /** Parents and children, depths and numbers of points go together. */
    private static void linked(PrioritySearchTree x) {
        Check.due(0, () -> x.depthOf(x.root()));
        Check.due(x.size(), () -> x.subtreeSize(x.root()));
        for (int i = 0; i < x.size(); i++) {
            int key = x.keyAt(i);
            Check.due(x.subtreeSize(key) - 1, () -> below(x, key, x.hasLeft(key), () -> x.leftOf(key))
                    + below(x, key, x.hasRight(key), () -> x.rightOf(key)));
        }
    }

    /** The number of points below a point on one side, where the child must know its parent. */
    private static int below(PrioritySearchTree x, int key, boolean has, IntSupplier child) {
        if (!has) {
            return 0;
        }
        int below = child.getAsInt();
        Check.due("parent of " + below, x.parentOf(below), key);
        Check.due("depth of " + below, x.depthOf(below), x.depthOf(key) + 1);
        return x.subtreeSize(below);
    }

    private static void rotations() {
        terms("A rotation exchanges a child with its parent: the child takes the place of the parent, the parent becomes its"
                + " child on the other side, and the subtree of the child on that side becomes a subtree of the parent in"
                + " place of the child.", () -> {
            PrioritySearchTree left = Check.tree(90, 90, 20, 50, 10, 40, 5, 1, 15, 2, 30, 3);
            Check.due("((((5:1)10:40(15:2))20:50(30:3))90:90)", () -> Check.written(left));
            Check.due(1, () -> left.changePriority(10, 60));
            Check.due("(((5:1)10:60((15:2)20:50(30:3)))90:90)", () -> Check.written(left));
            Check.due(1, () -> left.changePriority(20, 70));
            Check.due("((((5:1)10:60(15:2))20:70(30:3))90:90)", () -> Check.written(left));
            // Without a subtree between the two, and at the root.
            Check.due("(5:9(6:8))", () -> Check.written(Check.tree(6, 8, 5, 9)));
            Check.due("((6:8)7:9)", () -> Check.written(Check.tree(6, 8, 7, 9)));
            // Below the right child of a point.
            Check.due("(1:99(5:9(6:8)))", () -> Check.written(Check.tree(1, 99, 6, 8, 5, 9)));
            linked(left);
            // The subtree that moves over, whichever of the points came first.
            PrioritySearchTree over = Check.tree(15, 2, 20, 50, 10, 40);
            Check.due("((10:40(15:2))20:50)", () -> Check.written(over));
            linked(over);
            Check.due(1, () -> over.changePriority(10, 60));
            Check.due("(10:60((15:2)20:50))", () -> Check.written(over));
            linked(over);
            Check.due(1, () -> over.changePriority(20, 61));
            linked(over);
            PrioritySearchTree full = Check.full(7);
            for (int key = 0; key < 24; key++) {
                full.changePriority(key * 7 % 24, 30 + key * 11 % 24);
                full.changePriority(key * 5 % 24, key);
            }
            linked(full);
        });
        terms("A point is rotated up as long as it belongs above its parent.", () -> {
            // Not at all, up to a point of the same priority and a lower key, past one with a greater key, to the root.
            Check.due(0, () -> Check.tree(10, 50, 20, 40, 30, 30).insert(40, 30));
            Check.due(1, () -> Check.tree(10, 50, 20, 40, 30, 30).insert(40, 31));
            Check.due(1, () -> Check.tree(10, 50, 20, 40, 30, 30).insert(40, 40));
            Check.due(2, () -> Check.tree(10, 50, 20, 40, 30, 30).insert(40, 41));
            Check.due(3, () -> Check.tree(10, 50, 20, 40, 30, 30).insert(40, 51));
            Check.due(1, () -> Check.tree(40, 50, 30, 40, 20, 30).insert(10, 30));
            Check.due(2, () -> Check.tree(40, 50, 30, 40, 20, 30).insert(10, 40));
            Check.due(3, () -> Check.tree(40, 50, 30, 40, 20, 30).insert(10, 50));
            PrioritySearchTree x = Check.full(5);
            x.delete(0);
            Check.due(23, () -> x.insert(99, 6));
        });
        terms("A point is rotated down as long as it has a child that belongs above it, or, when it is deleted, as long as it"
                + " has a child: each time with the child that belongs above the other one, or with the only child.", () -> {
            PrioritySearchTree x = Check.tree(50, 90, 40, 80, 60, 80, 30, 10, 70, 10);
            // The same priority: the child with the greater key stays below, the one with the lower key comes up.
            Check.due(0, () -> x.changePriority(50, 81));
            Check.due(1, () -> x.changePriority(50, 80));
            Check.due("((30:10)40:80(50:80(60:80(70:10))))", () -> Check.written(x));
            Check.due(1, () -> x.changePriority(50, 79));
            Check.due("((30:10)40:80((50:79)60:80(70:10)))", () -> Check.written(x));
            // Deleted: with the only child, though the point would belong above it.
            Check.due(2, () -> x.delete(60));
            Check.due("((30:10)40:80(50:79(70:10)))", () -> Check.written(x));
            // The greater priority of two children, then the only one.
            Check.due(2, () -> x.delete(40));
            Check.due("((30:10)50:79(70:10))", () -> Check.written(x));
            // The lower key of two children with the same priority.
            Check.due(2, () -> x.delete(50));
            Check.due("(30:10(70:10))", () -> Check.written(x));
            Check.due(0, () -> x.delete(70));
            Check.due(0, () -> x.delete(30));
            PrioritySearchTree full = Check.full(5);
            // From the root to the greatest depth.
            Check.due(23, () -> full.changePriority(23, 6));
            Check.due(23, () -> full.changePriority(23, 4));
            full.changePriority(23, 6);
            Check.due(23, () -> full.delete(23));
            Check.due(1, () -> full.delete(0));
        });
    }

    private static void windows() {
        terms("There are 4 windows, numbered from 0 to 3, which are not set at first.", () -> {
            PrioritySearchTree x = new PrioritySearchTree();
            for (int i = 0; i < 4; i++) {
                int window = i;
                Check.due(false, () -> x.isWindowSet(window));
                Check.due(0, () -> x.setWindow(window, 0, 99, 0, 1));
                Check.due(true, () -> x.isWindowSet(window));
            }
            for (int window : new int[] {-1, 4}) {
                Check.fails(Check.IOOBE, () -> x.isWindowSet(window));
                Check.fails(Check.IOOBE, () -> x.setWindow(window, 0, 99, 0, 1));
            }
        });
        terms("A window has a range of keys, a lowest priority and a limit.", () -> {
            PrioritySearchTree x = Check.tree(0, 0, 50, 50, 99, 99);
            x.setWindow(0, 0, 0, 0, 1);
            x.setWindow(1, 99, 99, 99, 2);
            x.setWindow(2, 0, 99, 0, 24);
            x.setWindow(3, 0, 98, 1, 23);
            Check.due("0", () -> Check.window(x, 0));
            Check.due("99", () -> Check.window(x, 1));
            Check.due("0,50,99", () -> Check.window(x, 2));
            Check.due("50", () -> Check.window(x, 3));
            int[] rooms = {0, 1, 21, 22};
            for (int i = 0; i < 4; i++) {
                int window = i;
                Check.due(rooms[window], () -> x.roomInWindow(window));
            }
        });
        terms("A point is in a window if its key is in the range and its priority is at least the lowest priority.", () -> {
            PrioritySearchTree x = Check.tree(19, 99, 20, 50, 30, 49, 40, 99, 41, 99, 21, 51, 39, 50);
            Check.due(4, () -> x.setWindow(0, 20, 40, 50, 24));
            Check.due("20,21,39,40", () -> Check.window(x, 0));
            // Right before the edges, on them, and over them.
            x.changePriority(30, 50);
            Check.due("20,21,30,39,40", () -> Check.window(x, 0));
            x.changePriority(20, 49);
            Check.due("21,30,39,40", () -> Check.window(x, 0));
            x.delete(20);
            x.moveKey(19, 20);
            x.moveKey(40, 42);
            x.moveKey(41, 40);
            Check.due("20,21,30,39,40", () -> Check.window(x, 0));
            x.moveKey(20, 19);
            x.moveKey(40, 41);
            Check.due("21,30,39", () -> Check.window(x, 0));
        });
        terms("When a point is moved to another key, windows have it with its new key only.", () -> {
            PrioritySearchTree x = Check.tree(10, 10, 20, 20);
            x.setWindow(0, 0, 30, 0, 2);
            x.setWindow(1, 15, 30, 0, 1);
            x.setWindow(2, 31, 99, 0, 1);
            // Inside of two full windows.
            Check.due(2, () -> x.moveKey(20, 30));
            Check.due("10,30", () -> Check.window(x, 0));
            Check.due("30", () -> Check.window(x, 1));
            // Out of two windows, into a third one that it fills.
            x.moveKey(30, 31);
            Check.due("10", () -> Check.window(x, 0));
            Check.due("", () -> Check.window(x, 1));
            Check.due("31", () -> Check.window(x, 2));
            Check.due(1, () -> Check.run(x, "m31>99"));
            Check.due("99", () -> Check.window(x, 2));
            // Into a window that is full with another point.
            Check.fails(Check.UOE, () -> x.moveKey(10, 31));
            Check.due("3 2 none", () -> Twins.rejection(x));
        });
    }

    private static void limits() {
        terms("A window that is set never has more points than its limit.", () -> {
            for (int limit : new int[] {1, 2, 23}) {
                PrioritySearchTree x = new PrioritySearchTree();
                x.setWindow(3, 10, 60, 40, limit);
                for (int i = 0; i < limit; i++) {
                    int key = 10 + i;
                    Check.due(true, () -> x.canInsert(key, 40));
                    x.insert(key, 40);
                }
                Check.due(0, () -> x.roomInWindow(3));
                Check.fails(Check.UOE, () -> x.insert(60, 40));
                Check.due(limit, () -> x.pointsInWindow(3));
                // What is not in the window is free.
                x.insert(61, 40);
                Check.fails(Check.UOE, () -> x.moveKey(61, 60));
                x.moveKey(61, 9);
                x.changePriority(9, 39);
                x.moveKey(9, 60);
                Check.fails(Check.UOE, () -> x.changePriority(60, 40));
                Check.due(Check.UOE, () -> Check.run(x, "p60:40"));
                Check.due(limit, () -> x.pointsInWindow(3));
                Check.fails(Check.UOE, () -> x.setWindow(3, 10, 60, 39, limit));
                Check.due(limit + 1, () -> x.setWindow(3, 10, 60, 39, limit + 1));
                Check.due(true, x::isConsistent);
            }
            PrioritySearchTree x = Check.full(40);
            Check.due(24, () -> x.setWindow(3, 0, 99, 0, 24));
            Check.due(0, () -> x.roomInWindow(3));
            Check.fails(Check.UOE, () -> x.setWindow(3, 0, 99, 0, 23));
            Check.due(0, () -> x.roomInWindow(3));
        });
    }
}
