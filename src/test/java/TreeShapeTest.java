/** Promises 18 to 30. */
public final class TreeShapeTest {
    public static void main(String[] args) {
        // ((((0:1)10:10)20:80(30:20))50:90(70:85(80:6)))
        PrioritySearchTree x = Check.tree(50, 90, 20, 80, 70, 85, 10, 10, 30, 20, 80, 6, 0, 1);
        children(x);
        measures(x);
        pairs(x);
        missing(x);
        without(new PrioritySearchTree());
        chain();
        Check.finish();
    }

    private static void children(PrioritySearchTree x) {
        Check.promise(18);
        Check.due(50, x::root);
        Check.promise(19);
        Check.due(true, () -> x.hasLeft(50));
        Check.due(true, () -> x.hasLeft(10));
        Check.due(false, () -> x.hasLeft(70));
        Check.due(false, () -> x.hasLeft(0));
        Check.promise(20);
        Check.due(true, () -> x.hasRight(50));
        Check.due(true, () -> x.hasRight(70));
        Check.due(false, () -> x.hasRight(10));
        Check.due(false, () -> x.hasRight(0));
        Check.promise(21);
        Check.due(20, () -> x.leftOf(50));
        Check.due(10, () -> x.leftOf(20));
        Check.due(0, () -> x.leftOf(10));
        Check.fails(Check.NSEE, () -> x.leftOf(70));
        Check.promise(22);
        Check.due(70, () -> x.rightOf(50));
        Check.due(30, () -> x.rightOf(20));
        Check.due(80, () -> x.rightOf(70));
        Check.fails(Check.NSEE, () -> x.rightOf(10));
        Check.promise(23);
        Check.due(50, () -> x.parentOf(20));
        Check.due(50, () -> x.parentOf(70));
        Check.due(10, () -> x.parentOf(0));
        Check.due(70, () -> x.parentOf(80));
        Check.fails(Check.NSEE, () -> x.parentOf(50));
    }

    private static void measures(PrioritySearchTree x) {
        Check.promise(24);
        Check.due(0, () -> x.depthOf(50));
        Check.due(1, () -> x.depthOf(70));
        Check.due(2, () -> x.depthOf(30));
        Check.due(3, () -> x.depthOf(0));
        Check.promise(25);
        Check.due(7, () -> x.subtreeSize(50));
        Check.due(4, () -> x.subtreeSize(20));
        Check.due(2, () -> x.subtreeSize(70));
        Check.due(1, () -> x.subtreeSize(80));
        Check.promise(26);
        Check.due(2, () -> x.imbalanceOf(50));
        Check.due(1, () -> x.imbalanceOf(20));
        Check.due(-1, () -> x.imbalanceOf(70));
        Check.due(0, () -> x.imbalanceOf(0));
        Check.promise(27);
        Check.due(3, x::height);
        Check.due(0, () -> Check.tree(5, 5).height());
        Check.promise(28);
        Check.due(3, x::leafCount);
        Check.due(1, () -> Check.tree(5, 5).leafCount());
    }

    private static void pairs(PrioritySearchTree x) {
        Check.promise(29);
        Check.due(20, () -> x.commonAncestor(0, 30));
        Check.due(20, () -> x.commonAncestor(30, 0));
        Check.due(20, () -> x.commonAncestor(20, 0));
        Check.due(50, () -> x.commonAncestor(80, 0));
        Check.due(80, () -> x.commonAncestor(80, 80));
        Check.promise(30);
        Check.due(3, () -> x.distance(0, 30));
        Check.due(3, () -> x.distance(30, 0));
        Check.due(5, () -> x.distance(80, 0));
        Check.due(1, () -> x.distance(20, 50));
        Check.due(0, () -> x.distance(80, 80));
    }

    private static void missing(PrioritySearchTree x) {
        for (int key : new int[] {51, -1, 100, Integer.MIN_VALUE, Integer.MAX_VALUE}) {
            Check.promise(19);
            Check.fails(Check.NSEE, () -> x.hasLeft(key));
            Check.promise(20);
            Check.fails(Check.NSEE, () -> x.hasRight(key));
            Check.promise(21);
            Check.fails(Check.NSEE, () -> x.leftOf(key));
            Check.promise(22);
            Check.fails(Check.NSEE, () -> x.rightOf(key));
            Check.promise(23);
            Check.fails(Check.NSEE, () -> x.parentOf(key));
            Check.promise(24);
            Check.fails(Check.NSEE, () -> x.depthOf(key));
            Check.promise(25);
            Check.fails(Check.NSEE, () -> x.subtreeSize(key));
            Check.promise(26);
            Check.fails(Check.NSEE, () -> x.imbalanceOf(key));
            Check.promise(29);
            Check.fails(Check.NSEE, () -> x.commonAncestor(key, 50));
            Check.fails(Check.NSEE, () -> x.commonAncestor(50, key));
            Check.promise(30);
            Check.fails(Check.NSEE, () -> x.distance(key, 50));
            Check.fails(Check.NSEE, () -> x.distance(50, key));
        }
    }

    private static void without(PrioritySearchTree x) {
        Check.promise(18);
        Check.fails(Check.NSEE, x::root);
        Check.promise(27);
        Check.due(-1, x::height);
        Check.promise(28);
        Check.due(0, x::leafCount);
        Check.promise(29);
        Check.fails(Check.NSEE, () -> x.commonAncestor(0, 0));
        Check.promise(30);
        Check.fails(Check.NSEE, () -> x.distance(0, 0));
    }

    /** The deepest tree: each point is the right child of the one before it. */
    private static void chain() {
        PrioritySearchTree x = Check.full(5);
        Check.promise(27);
        Check.due(23, x::height);
        Check.promise(24);
        Check.due(23, () -> x.depthOf(23));
        Check.promise(28);
        Check.due(1, x::leafCount);
        Check.promise(30);
        Check.due(23, () -> x.distance(23, 0));
        Check.promise(26);
        Check.due(-23, () -> x.imbalanceOf(0));
    }
}
