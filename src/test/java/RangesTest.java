/** Promises 31 to 37. */
public final class RangesTest {
    public static void main(String[] args) {
        PrioritySearchTree x = Check.tree(50, 90, 20, 80, 70, 90, 10, 10, 0, 80, 99, 0);
        counts(x);
        tops(x);
        above(x);
        sums(x);
        wrong(x);
        wrong(new PrioritySearchTree());
        without(new PrioritySearchTree());
        deepest();
        Check.finish();
    }

    private static void counts(PrioritySearchTree x) {
        int[][] dues = {{0, 99, 6}, {0, 0, 1}, {99, 99, 1}, {1, 98, 4}, {10, 50, 3}, {11, 49, 1}, {21, 49, 0}, {71, 98, 0}};
        for (int[] due : dues) {
            Check.promise(31);
            Check.due(due[2], () -> x.countInRange(due[0], due[1]));
            Check.promise(32);
            Check.due(due[2], () -> x.countInRangeByScan(due[0], due[1]));
        }
    }

    private static void tops(PrioritySearchTree x) {
        int[][] dues = {{0, 99, 50}, {51, 99, 70}, {0, 49, 0}, {1, 49, 20}, {71, 99, 99}, {10, 10, 10}, {50, 70, 50}};
        for (int[] due : dues) {
            Check.promise(33);
            Check.due(due[2], () -> x.topInRange(due[0], due[1]));
            Check.promise(34);
            Check.due(due[2], () -> x.topInRangeByScan(due[0], due[1]));
        }
        Check.promise(33);
        Check.fails(Check.NSEE, () -> x.topInRange(21, 49));
        Check.promise(34);
        Check.fails(Check.NSEE, () -> x.topInRangeByScan(21, 49));
    }

    private static void above(PrioritySearchTree x) {
        int[][] dues = {{0, 99, 0, 6}, {0, 99, 1, 5}, {0, 99, 80, 4}, {0, 99, 81, 2}, {0, 99, 91, 0}, {0, 50, 80, 3},
            {51, 99, 90, 1}, {99, 99, 0, 1}, {99, 99, 99, 0}, {21, 49, 0, 0}};
        for (int[] due : dues) {
            Check.promise(35);
            Check.due(due[3], () -> x.countAbove(due[0], due[1], due[2]));
            Check.promise(36);
            Check.due(due[3], () -> x.countAboveByScan(due[0], due[1], due[2]));
        }
    }

    private static void sums(PrioritySearchTree x) {
        Check.promise(37);
        Check.due(350L, () -> x.sumInRange(0, 99));
        Check.due(180L, () -> x.sumInRange(10, 50));
        Check.due(0L, () -> x.sumInRange(21, 49));
        Check.due(80L, () -> x.sumInRange(0, 0));
        Check.due(24L * 99, () -> Check.full(99).sumInRange(0, 99));
    }

    private static void wrong(PrioritySearchTree x) {
        int[][] ranges = {{-1, 5}, {0, 100}, {5, 4}, {100, 100}, {-2, -1}, {Integer.MIN_VALUE, Integer.MAX_VALUE},
            {Integer.MAX_VALUE, Integer.MIN_VALUE}};
        for (int[] range : ranges) {
            Check.promise(31);
            Check.fails(Check.IAE, () -> x.countInRange(range[0], range[1]));
            Check.promise(32);
            Check.fails(Check.IAE, () -> x.countInRangeByScan(range[0], range[1]));
            Check.promise(33);
            Check.fails(Check.IAE, () -> x.topInRange(range[0], range[1]));
            Check.promise(34);
            Check.fails(Check.IAE, () -> x.topInRangeByScan(range[0], range[1]));
            Check.promise(35);
            Check.fails(Check.IAE, () -> x.countAbove(range[0], range[1], 0));
            Check.promise(36);
            Check.fails(Check.IAE, () -> x.countAboveByScan(range[0], range[1], 0));
            Check.promise(37);
            Check.fails(Check.IAE, () -> x.sumInRange(range[0], range[1]));
        }
        for (int priority : new int[] {-1, 100, Integer.MIN_VALUE, Integer.MAX_VALUE}) {
            Check.promise(35);
            Check.fails(Check.IAE, () -> x.countAbove(0, 99, priority));
            Check.promise(36);
            Check.fails(Check.IAE, () -> x.countAboveByScan(0, 99, priority));
        }
    }

    private static void without(PrioritySearchTree x) {
        Check.promise(31);
        Check.due(0, () -> x.countInRange(0, 99));
        Check.promise(32);
        Check.due(0, () -> x.countInRangeByScan(0, 99));
        Check.promise(33);
        Check.fails(Check.NSEE, () -> x.topInRange(0, 99));
        Check.promise(34);
        Check.fails(Check.NSEE, () -> x.topInRangeByScan(0, 99));
        Check.promise(35);
        Check.due(0, () -> x.countAbove(0, 99, 0));
        Check.promise(36);
        Check.due(0, () -> x.countAboveByScan(0, 99, 0));
        Check.promise(37);
        Check.due(0L, () -> x.sumInRange(0, 99));
    }

    private static void deepest() {
        PrioritySearchTree left = Check.fullToTheLeft();
        Check.promise(33);
        Check.due(0, () -> left.topInRange(0, 0));
        Check.promise(34);
        Check.due(23, () -> left.topInRangeByScan(0, 99));
        Check.promise(35);
        Check.due(24, () -> left.countAbove(0, 99, 0));
        Check.promise(36);
        Check.due(24, () -> left.countAboveByScan(0, 99, 0));
        PrioritySearchTree x = Check.full(5);
        Check.promise(31);
        Check.due(1, () -> x.countInRange(23, 23));
        Check.promise(33);
        Check.due(23, () -> x.topInRange(23, 99));
        Check.promise(35);
        Check.due(24, () -> x.countAbove(0, 23, 5));
        Check.due(0, () -> x.countAbove(0, 23, 6));
    }
}
