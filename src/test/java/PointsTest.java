/** Promises 7 to 17. */
public final class PointsTest {
    private static final int LOWEST = Integer.MIN_VALUE;
    private static final int GREATEST = Integer.MAX_VALUE;

    public static void main(String[] args) {
        PrioritySearchTree x = Check.tree(50, 90, 20, 80, 70, 90, 10, 10, 0, 80, 99, 0);
        onePoint(x);
        ends(x);
        neighbours(x);
        positions(x);
        deepest(Check.full(5));
        deepest(Check.fullToTheLeft());
        without(new PrioritySearchTree());
        Check.finish();
    }

    private static void onePoint(PrioritySearchTree x) {
        Check.promise(7);
        Check.due(6, x::size);
        Check.due(24, () -> Check.full(0).size());
        Check.promise(8);
        for (int key : new int[] {50, 20, 70, 10, 0, 99}) {
            Check.due(true, () -> x.contains(key));
        }
        for (int key : new int[] {51, 1, 98, -1, 100, LOWEST, GREATEST}) {
            Check.due(false, () -> x.contains(key));
            Check.promise(9);
            Check.fails(Check.NSEE, () -> x.priorityOf(key));
            Check.promise(8);
        }
        Check.promise(9);
        Check.due(90, () -> x.priorityOf(50));
        Check.due(80, () -> x.priorityOf(0));
        Check.due(0, () -> x.priorityOf(99));
    }

    private static void ends(PrioritySearchTree x) {
        PrioritySearchTree one = Check.tree(7, 7);
        Check.promise(10);
        Check.due(0, x::lowestKey);
        Check.due(7, one::lowestKey);
        Check.promise(11);
        Check.due(99, x::greatestKey);
        Check.due(7, one::greatestKey);
    }

    private static void neighbours(PrioritySearchTree x) {
        Check.promise(12);
        Check.due(50, () -> x.floorKey(50));
        Check.due(20, () -> x.floorKey(49));
        Check.due(0, () -> x.floorKey(0));
        Check.due(99, () -> x.floorKey(GREATEST));
        Check.fails(Check.NSEE, () -> x.floorKey(-1));
        Check.fails(Check.NSEE, () -> x.floorKey(LOWEST));
        Check.promise(13);
        Check.due(50, () -> x.ceilingKey(50));
        Check.due(70, () -> x.ceilingKey(51));
        Check.due(99, () -> x.ceilingKey(99));
        Check.due(0, () -> x.ceilingKey(LOWEST));
        Check.fails(Check.NSEE, () -> x.ceilingKey(100));
        Check.fails(Check.NSEE, () -> x.ceilingKey(GREATEST));
        Check.promise(14);
        Check.due(50, () -> x.nearestKey(50));
        Check.due(20, () -> x.nearestKey(35));
        Check.due(20, () -> x.nearestKey(34));
        Check.due(50, () -> x.nearestKey(36));
        PrioritySearchTree one = Check.tree(40, 7);
        Check.due(40, () -> one.nearestKey(0));
        Check.due(40, () -> one.nearestKey(99));
        for (int wrong : new int[] {-1, 100, LOWEST, GREATEST}) {
            Check.fails(Check.IAE, () -> x.nearestKey(wrong));
            Check.fails(Check.IAE, () -> new PrioritySearchTree().nearestKey(wrong));
        }
    }

    private static void positions(PrioritySearchTree x) {
        int[] ascending = {0, 10, 20, 50, 70, 99};
        int[] byPriority = {50, 70, 0, 20, 10, 99};
        for (int i = 0; i < 6; i++) {
            int position = i;
            Check.promise(15);
            Check.due(i, () -> x.rankOf(ascending[position]));
            Check.due(i + 1, () -> x.rankOf(ascending[position] + 1));
            Check.promise(16);
            Check.due(ascending[i], () -> x.keyAt(position));
            Check.promise(17);
            Check.due(byPriority[i], () -> x.keyByPriority(position));
        }
        Check.promise(15);
        Check.due(0, () -> x.rankOf(LOWEST));
        Check.due(6, () -> x.rankOf(GREATEST));
        for (int wrong : new int[] {-1, 6, LOWEST, GREATEST}) {
            Check.promise(16);
            Check.fails(Check.NSEE, () -> x.keyAt(wrong));
            Check.promise(17);
            Check.fails(Check.NSEE, () -> x.keyByPriority(wrong));
        }
    }

    /** Trees with the greatest number of points and the greatest height. */
    private static void deepest(PrioritySearchTree x) {
        boolean toTheLeft = x.root() == 23;
        for (int i = 0; i < 24; i++) {
            int key = i;
            Check.promise(8);
            Check.due(true, () -> x.contains(key));
            Check.promise(12);
            Check.due(key, () -> x.floorKey(key));
            Check.promise(13);
            Check.due(key, () -> x.ceilingKey(key));
            Check.promise(15);
            Check.due(key, () -> x.rankOf(key));
            Check.promise(16);
            Check.due(key, () -> x.keyAt(key));
            Check.promise(17);
            Check.due(toTheLeft ? 23 - key : key, () -> x.keyByPriority(key));
        }
        Check.promise(10);
        Check.due(0, x::lowestKey);
        Check.promise(11);
        Check.due(23, x::greatestKey);
    }

    private static void without(PrioritySearchTree x) {
        Check.promise(7);
        Check.due(0, x::size);
        Check.promise(10);
        Check.fails(Check.NSEE, x::lowestKey);
        Check.promise(11);
        Check.fails(Check.NSEE, x::greatestKey);
        Check.promise(12);
        Check.fails(Check.NSEE, () -> x.floorKey(5));
        Check.promise(13);
        Check.fails(Check.NSEE, () -> x.ceilingKey(5));
        Check.promise(14);
        Check.fails(Check.NSEE, () -> x.nearestKey(5));
        Check.promise(15);
        Check.due(0, () -> x.rankOf(5));
        Check.promise(16);
        Check.fails(Check.NSEE, () -> x.keyAt(0));
        Check.promise(17);
        Check.fails(Check.NSEE, () -> x.keyByPriority(0));
    }
}
