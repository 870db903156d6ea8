/** The edges that the promises 18 to 30 name. */
final class ShapeBoundaries {
    private static final String KEY = "- `key`: the key of a point";

    private ShapeBoundaries() {
    }

    static void all() {
        root();
        hasChildren();
        left();
        right();
        parent();
        depth();
        subtree();
        imbalance();
        height();
        leaves();
        ancestor();
        distance();
    }

    private static void root() {
        Sentence.of(18, "Returns the key of the root.", () -> {
            Check.due(50, () -> Edges.ends().root());
            Check.due(0, () -> Check.full(7).root());
            Check.due(23, () -> Check.fullToTheLeft().root());
        });
        Sentence.of(18, "Returns the key.", () -> {
            PrioritySearchTree x = Check.tree(99, 0);
            Check.due(99, x::root);
            x.insert(0, 0);
            Check.due(0, x::root);
            x.insert(50, 1);
            Check.due(50, x::root);
            x.delete(50);
            Check.due(0, x::root);
            x.delete(0);
            Check.due(99, x::root);
        });
        Edges.noPoints(18, Check.NSEE, "Throws `NoSuchElementException` if there are no points", PrioritySearchTree::root);
    }

    private static void hasChildren() {
        Edges.OfKey left = (x, key) -> x.hasLeft(key);
        Sentence.of(19, "Tells whether a point has a left child.", () -> {
            Check.due(true, () -> Edges.ends().hasLeft(50));
            Check.due(false, () -> Check.tree(50, 9, 99, 5).hasLeft(50));
            Check.due(true, () -> Check.tree(50, 9, 0, 5).hasLeft(50));
            Check.due(false, () -> Check.tree(50, 9).hasLeft(50));
        });
        Edges.keyOfPoint(19, KEY, left, false, false);
        Sentence.of(19, "Returns whether it has a left child.", () -> {
            for (int i = 0; i < 24; i++) {
                int key = i;
                Check.due(key > 0, () -> Check.fullToTheLeft().hasLeft(key));
                Check.due(false, () -> Check.full(7).hasLeft(key));
            }
        });
        Edges.noPoint(19, left);
        Edges.OfKey right = (x, key) -> x.hasRight(key);
        Sentence.of(20, "Tells whether a point has a right child.", () -> {
            Check.due(true, () -> Edges.ends().hasRight(50));
            Check.due(false, () -> Check.tree(50, 9, 0, 5).hasRight(50));
            Check.due(true, () -> Check.tree(50, 9, 99, 5).hasRight(50));
            Check.due(false, () -> Check.tree(50, 9).hasRight(50));
        });
        Edges.keyOfPoint(20, KEY, right, false, false);
        Sentence.of(20, "Returns whether it has a right child.", () -> {
            for (int i = 0; i < 24; i++) {
                int key = i;
                Check.due(key < 23, () -> Check.full(7).hasRight(key));
                Check.due(false, () -> Check.fullToTheLeft().hasRight(key));
            }
        });
        Edges.noPoint(20, right);
    }

    /** The point 0 never has a left child, and the point 99 never has a right one. */
    private static void left() {
        Edges.OfKey use = (x, key) -> x.leftOf(key);
        Sentence.of(21, "Returns the left child of a point.", () -> {
            Check.due(0, () -> Edges.ends().leftOf(50));
            Check.due(49, () -> Check.tree(50, 9, 49, 8, 48, 7).leftOf(50));
        });
        Sentence.of(21, KEY, () -> {
            Check.due(0, () -> Check.tree(1, 9, 0, 5).leftOf(1));
            Check.due(98, () -> Check.tree(99, 9, 98, 5).leftOf(99));
            Check.fails(Check.NSEE, () -> Edges.ends().leftOf(0));
            Check.fails(Check.NSEE, () -> Edges.ends().leftOf(-1));
            Check.fails(Check.NSEE, () -> Edges.ends().leftOf(100));
        });
        Sentence.of(21, "Returns the key of the child.", () -> {
            for (int i = 1; i < 24; i++) {
                int key = i;
                Check.due(key - 1, () -> Check.fullToTheLeft().leftOf(key));
            }
        });
        Edges.noPoint(21, "Throws `NoSuchElementException` if there is no point with this key, or it has no left child", use,
                () -> {
            Check.fails(Check.NSEE, () -> Check.tree(50, 9).leftOf(50));
            Check.fails(Check.NSEE, () -> Check.tree(50, 9, 99, 5).leftOf(50));
            Check.fails(Check.NSEE, () -> Check.full(7).leftOf(12));
            Check.fails(Check.NSEE, () -> Check.fullToTheLeft().leftOf(0));
            PrioritySearchTree x = Edges.ends();
            x.delete(0);
            Check.fails(Check.NSEE, () -> x.leftOf(50));
            Twins.refused(Check.NSEE, Twins::workedWithInput, y -> y.leftOf(70));
        });
    }

    private static void right() {
        Edges.OfKey use = (x, key) -> x.rightOf(key);
        Sentence.of(22, "Returns the right child of a point.", () -> {
            Check.due(99, () -> Edges.ends().rightOf(50));
            Check.due(51, () -> Check.tree(50, 9, 51, 8, 52, 7).rightOf(50));
        });
        Sentence.of(22, KEY, () -> {
            Check.due(1, () -> Check.tree(0, 9, 1, 5).rightOf(0));
            Check.due(99, () -> Check.tree(98, 9, 99, 5).rightOf(98));
            Check.fails(Check.NSEE, () -> Edges.ends().rightOf(99));
            Check.fails(Check.NSEE, () -> Edges.ends().rightOf(-1));
            Check.fails(Check.NSEE, () -> Edges.ends().rightOf(100));
        });
        Sentence.of(22, "Returns the key of the child.", () -> {
            for (int i = 0; i < 23; i++) {
                int key = i;
                Check.due(key + 1, () -> Check.full(7).rightOf(key));
            }
        });
        Edges.noPoint(22, "Throws `NoSuchElementException` if there is no point with this key, or it has no right child", use,
                () -> {
            Check.fails(Check.NSEE, () -> Check.tree(50, 9).rightOf(50));
            Check.fails(Check.NSEE, () -> Check.tree(50, 9, 0, 5).rightOf(50));
            Check.fails(Check.NSEE, () -> Check.full(7).rightOf(23));
            Check.fails(Check.NSEE, () -> Check.fullToTheLeft().rightOf(12));
            PrioritySearchTree x = Edges.ends();
            x.delete(99);
            Check.fails(Check.NSEE, () -> x.rightOf(50));
            Twins.refused(Check.NSEE, Twins::workedWithInput, y -> y.rightOf(70));
        });
    }

    private static void parent() {
        Edges.OfKey use = (x, key) -> x.parentOf(key);
        Sentence.of(23, "Returns the parent of a point.", () -> {
            PrioritySearchTree x = Check.tree(50, 90, 20, 80, 70, 85, 10, 10, 30, 20);
            Check.due(50, () -> x.parentOf(20));
            Check.due(50, () -> x.parentOf(70));
            Check.due(20, () -> x.parentOf(10));
            Check.due(20, () -> x.parentOf(30));
        });
        Edges.keyOfPoint(23, KEY, use, 50, 50);
        Sentence.of(23, "Returns the key of the parent.", () -> {
            for (int i = 0; i < 23; i++) {
                int key = i;
                Check.due(key, () -> Check.full(7).parentOf(key + 1));
                Check.due(key + 1, () -> Check.fullToTheLeft().parentOf(key));
            }
        });
        Edges.noPoint(23, "Throws `NoSuchElementException` if there is no point with this key, or it is the root", use, () -> {
            Check.fails(Check.NSEE, () -> Check.tree(0, 0).parentOf(0));
            Check.fails(Check.NSEE, () -> Check.full(7).parentOf(0));
            Check.fails(Check.NSEE, () -> Check.fullToTheLeft().parentOf(23));
            // A point that becomes the root by rotations, by a deletion, and no more.
            PrioritySearchTree x = Edges.ends();
            Check.fails(Check.NSEE, () -> x.parentOf(50));
            x.changePriority(0, 99);
            Check.fails(Check.NSEE, () -> x.parentOf(0));
            Check.due(0, () -> x.parentOf(50));
            x.undo();
            Check.fails(Check.NSEE, () -> x.parentOf(50));
            x.delete(50);
            Check.fails(Check.NSEE, () -> x.parentOf(99));
            Check.due(99, () -> x.parentOf(0));
            Twins.refused(Check.NSEE, Twins::workedWithInput, y -> y.parentOf(50));
        });
    }

    private static void depth() {
        Edges.OfKey use = (x, key) -> x.depthOf(key);
        Sentence.of(24, "Returns the depth of a point.", () -> {
            PrioritySearchTree x = Check.tree(50, 90, 20, 80, 70, 85, 10, 10, 30, 20);
            int[][] dues = {{50, 0}, {20, 1}, {70, 1}, {10, 2}, {30, 2}};
            for (int[] due : dues) {
                Check.due(due[1], () -> x.depthOf(due[0]));
            }
        });
        Edges.keyOfPoint(24, KEY, use, 1, 1);
        Sentence.of(24, "Returns the depth, 0 for the root.", () -> {
            Check.due(0, () -> Check.tree(5, 5).depthOf(5));
            for (int i = 0; i < 24; i++) {
                int key = i;
                Check.due(key, () -> Check.full(7).depthOf(key));
                Check.due(23 - key, () -> Check.fullToTheLeft().depthOf(key));
            }
        });
        Edges.noPoint(24, use);
    }

    private static void subtree() {
        Edges.OfKey use = (x, key) -> x.subtreeSize(key);
        Sentence.of(25, "Returns the number of points of the subtree of a point, the point included.", () -> {
            PrioritySearchTree x = Check.tree(50, 90, 20, 80, 70, 85, 10, 10, 30, 20, 80, 6);
            int[][] dues = {{50, 6}, {20, 3}, {70, 2}, {10, 1}, {30, 1}, {80, 1}};
            for (int[] due : dues) {
                Check.due(due[1], () -> x.subtreeSize(due[0]));
            }
        });
        Edges.keyOfPoint(25, KEY, use, 1, 1);
        Sentence.of(25, "Returns the number of points.", () -> {
            Check.due(1, () -> Check.tree(5, 5).subtreeSize(5));
            for (int i = 0; i < 24; i++) {
                int key = i;
                Check.due(24 - key, () -> Check.full(7).subtreeSize(key));
                Check.due(key + 1, () -> Check.fullToTheLeft().subtreeSize(key));
            }
            // The numbers follow each kind of change.
            PrioritySearchTree x = Check.full(7);
            x.changePriority(12, 99);
            Check.due(24, () -> x.subtreeSize(12));
            Check.due(12, () -> x.subtreeSize(0));
            x.delete(12);
            Check.due(23, () -> x.subtreeSize(0));
            x.moveKey(0, 99);
            Check.due(23, () -> x.subtreeSize(1));
            Check.due(1, () -> x.subtreeSize(99));
            x.deleteRange(2, 22);
            Check.due(3, () -> x.subtreeSize(1));
        });
        Edges.noPoint(25, use);
    }

    private static void imbalance() {
        Edges.OfKey use = (x, key) -> x.imbalanceOf(key);
        Sentence.of(26, "Returns the number of points of the subtree of the left child minus the number of points of the subtree"
                + " of the right child, where a missing child counts as 0.", () -> {
            Check.due(0, () -> Check.tree(5, 5).imbalanceOf(5));
            Check.due(1, () -> Check.tree(5, 5, 4, 4).imbalanceOf(5));
            Check.due(-1, () -> Check.tree(5, 5, 6, 4).imbalanceOf(5));
            Check.due(0, () -> Check.tree(5, 5, 6, 4, 4, 4).imbalanceOf(5));
            Check.due(1, () -> Check.tree(5, 5, 6, 4, 4, 4, 3, 3).imbalanceOf(5));
        });
        Edges.keyOfPoint(26, KEY, use, 0, 0);
        Sentence.of(26, "Returns the difference.", () -> {
            for (int i = 0; i < 24; i++) {
                int key = i;
                Check.due(key - 23, () -> Check.full(7).imbalanceOf(key));
                Check.due(key, () -> Check.fullToTheLeft().imbalanceOf(key));
            }
            Check.due(1, () -> {
                PrioritySearchTree x = Check.full(7);
                x.changePriority(12, 99);
                return x.imbalanceOf(12);
            });
        });
        Edges.noPoint(26, use);
    }

    private static void height() {
        Sentence.of(27, "Returns the height of the tree.", () -> {
            Check.due(0, () -> Check.tree(5, 5).height());
            Check.due(1, () -> Edges.ends().height());
            Check.due(2, () -> Check.tree(50, 90, 20, 80, 70, 85, 10, 10).height());
            Check.due(2, () -> Check.tree(50, 90, 20, 80, 70, 85, 80, 10).height());
        });
        Sentence.of(27, "Returns the greatest depth of a point, or -1 without points.", () -> {
            PrioritySearchTree right = new PrioritySearchTree();
            PrioritySearchTree left = new PrioritySearchTree();
            for (int i = 0; i < 24; i++) {
                int key = i;
                Check.due(key - 1, right::height);
                Check.due(key - 1, left::height);
                right.insert(key, 7);
                left.insert(key, key);
            }
            Check.due(23, right::height);
            Check.due(23, left::height);
            right.deleteRange(0, 99);
            Check.due(-1, right::height);
            Check.due(-1, () -> new PrioritySearchTree().height());
        });
    }

    private static void leaves() {
        Sentence.of(28, "Returns the number of leaves.", () -> {
            Check.due(1, () -> Check.tree(5, 5).leafCount());
            Check.due(2, () -> Edges.ends().leafCount());
            Check.due(1, () -> Check.full(7).leafCount());
            Check.due(1, () -> Check.fullToTheLeft().leafCount());
        });
        Sentence.of(28, "Returns the number of points without children.", () -> {
            Check.due(0, () -> new PrioritySearchTree().leafCount());
            // A point with one child, left or right, is no leaf.
            Check.due(1, () -> Check.tree(5, 5, 4, 4).leafCount());
            Check.due(1, () -> Check.tree(5, 5, 6, 4).leafCount());
            // The most leaves that 24 points can have.
            PrioritySearchTree x = new PrioritySearchTree();
            for (int key = 0; key < 24; key++) {
                x.insert(key, key % 2 == 0 ? 0 : 50);
            }
            Check.due(12, x::leafCount);
            x.deleteRange(0, 99);
            Check.due(0, x::leafCount);
        });
    }

    /** ((((0:1)10:10)20:80(30:20))50:90(70:85(99:6))) */
    private static PrioritySearchTree branches() {
        return Check.tree(50, 90, 20, 80, 70, 85, 10, 10, 30, 20, 99, 6, 0, 1);
    }

    private static void ancestor() {
        Sentence.of(29, "Returns the nearest common ancestor of two points, where each point also counts as an ancestor of itself.",
                () -> {
            PrioritySearchTree x = branches();
            int[][] dues = {{0, 30, 20}, {10, 30, 20}, {0, 99, 50}, {30, 70, 50}, {0, 10, 10}, {10, 0, 10}, {20, 0, 20},
                {50, 0, 50}, {99, 50, 50}, {99, 70, 70}, {0, 0, 0}, {50, 50, 50}, {99, 99, 99}};
            for (int[] due : dues) {
                Check.due(due[2], () -> x.commonAncestor(due[0], due[1]));
                Check.due(due[2], () -> x.commonAncestor(due[1], due[0]));
            }
        });
        Sentence.of(29, "- `first`: the key of one point", () -> {
            Check.due(20, () -> branches().commonAncestor(0, 30));
            Check.due(50, () -> branches().commonAncestor(99, 30));
            Check.fails(Check.NSEE, () -> branches().commonAncestor(-1, 30));
            Check.fails(Check.NSEE, () -> branches().commonAncestor(100, 30));
        });
        Sentence.of(29, "- `second`: the key of the other point", () -> {
            Check.due(20, () -> branches().commonAncestor(30, 0));
            Check.due(50, () -> branches().commonAncestor(30, 99));
            Check.fails(Check.NSEE, () -> branches().commonAncestor(30, -1));
            Check.fails(Check.NSEE, () -> branches().commonAncestor(30, 100));
        });
        Sentence.of(29, "Returns the key of the ancestor.", () -> {
            PrioritySearchTree right = Check.full(7);
            PrioritySearchTree left = Check.fullToTheLeft();
            for (int i = 0; i < 24; i++) {
                int key = i;
                Check.due(Math.min(key, 12), () -> right.commonAncestor(key, 12));
                Check.due(Math.max(key, 12), () -> left.commonAncestor(12, key));
            }
            Check.due(0, () -> right.commonAncestor(23, 0));
            Check.due(23, () -> left.commonAncestor(0, 23));
        });
        eitherMissing(29, (x, first, second) -> x.commonAncestor(first, second));
    }

    private static void distance() {
        Sentence.of(30, "Returns the number of steps between two points, from parent to child or from child to parent.", () -> {
            PrioritySearchTree x = branches();
            int[][] dues = {{0, 0, 0}, {99, 99, 0}, {0, 10, 1}, {50, 70, 1}, {0, 20, 2}, {10, 30, 2}, {0, 30, 3}, {0, 50, 3},
                {0, 70, 4}, {0, 99, 5}, {20, 70, 2}};
            for (int[] due : dues) {
                Check.due(due[2], () -> x.distance(due[0], due[1]));
                Check.due(due[2], () -> x.distance(due[1], due[0]));
            }
        });
        Sentence.of(30, "- `first`: the key of one point", () -> {
            Check.due(3, () -> branches().distance(0, 30));
            Check.due(4, () -> branches().distance(99, 30));
            Check.fails(Check.NSEE, () -> branches().distance(-1, 30));
            Check.fails(Check.NSEE, () -> branches().distance(100, 30));
        });
        Sentence.of(30, "- `second`: the key of the other point", () -> {
            Check.due(3, () -> branches().distance(30, 0));
            Check.due(4, () -> branches().distance(30, 99));
            Check.fails(Check.NSEE, () -> branches().distance(30, -1));
            Check.fails(Check.NSEE, () -> branches().distance(30, 100));
        });
        Sentence.of(30, "Returns the number of steps.", () -> {
            for (PrioritySearchTree full : new PrioritySearchTree[] {Check.full(7), Check.fullToTheLeft()}) {
                for (int i = 0; i < 24; i++) {
                    int key = i;
                    Check.due(key, () -> full.distance(0, key));
                    Check.due(23 - key, () -> full.distance(23, key));
                    Check.due(0, () -> full.distance(key, key));
                }
            }
            // Two branches of 24 points: the way goes up and down.
            PrioritySearchTree right = Check.full(7);
            right.changePriority(12, 99);
            Check.due(23, () -> right.distance(11, 23));
            PrioritySearchTree left = Check.fullToTheLeft();
            left.changePriority(12, 99);
            Check.due(23, () -> left.distance(13, 0));
        });
        eitherMissing(30, (x, first, second) -> x.distance(first, second));
    }

    private static void eitherMissing(int promise, Edges.OfRange use) {
        Sentence.of(promise, "Throws `NoSuchElementException` if there is no point with this key, for either argument", () -> {
            for (int missing : new int[] {1, 49, 51, 98, -1, 100, Edges.MIN, Edges.MAX}) {
                Check.fails(Check.NSEE, () -> use.of(Edges.ends(), missing, 50));
                Check.fails(Check.NSEE, () -> use.of(Edges.ends(), 50, missing));
                Check.fails(Check.NSEE, () -> use.of(Edges.ends(), missing, missing));
                Check.fails(Check.NSEE, () -> use.of(new PrioritySearchTree(), missing, missing));
                Twins.refused(Check.NSEE, Twins::workedWithInput, x -> use.of(x, missing, 50));
                Twins.refused(Check.NSEE, Twins::workedWithInput, x -> use.of(x, 50, missing));
            }
            Check.fails(Check.NSEE, () -> use.of(Check.full(7), 24, 0));
            Check.fails(Check.NSEE, () -> use.of(Check.full(7), 0, 24));
            PrioritySearchTree x = Edges.ends();
            x.delete(0);
            Check.fails(Check.NSEE, () -> use.of(x, 0, 99));
            Check.fails(Check.NSEE, () -> use.of(x, 99, 0));
        });
    }
}
