/** The edges that the promises 31 to 37 name. */
final class RangesBoundaries {
    private static final String LOW = "- `low`: the lowest key of the range, 0 to 99";
    private static final String HIGH = "- `high`: the greatest key of the range, 0 to 99";
    private static final String BY_SCAN = " in a second way: by looking at all points.";

    private RangesBoundaries() {
    }

    static void all() {
        count(31, (x, low, high) -> x.countInRange(low, high), "Returns the number of points in a range of keys, found in the tree"
                + " by the numbers of points of subtrees.", "Returns the number of points.");
        count(32, (x, low, high) -> x.countInRangeByScan(low, high), "Returns the same number" + BY_SCAN,
                "Returns the same number.");
        top(33, (x, low, high) -> x.topInRange(low, high), "Returns the point with the greatest priority in a range of keys, found"
                + " by a search from the root that ends at the first point in the range.",
                "Returns the key; of several such points, the lowest key.");
        top(34, (x, low, high) -> x.topInRangeByScan(low, high), "Returns the same key" + BY_SCAN, "Returns the same key.");
        above(35, (x, low, high, priority) -> x.countAbove(low, high, priority), "Returns the number of points in a range of keys"
                + " whose priorities are at least a given number.", "Returns the number of points.");
        above(36, (x, low, high, priority) -> x.countAboveByScan(low, high, priority), "Returns the same number" + BY_SCAN,
                "Returns the same number.");
        subtreesBelow();
        sum();
    }

    private static void count(int promise, Edges.OfRange use, String what, String returns) {
        Sentence.of(promise, what, () -> {
            PrioritySearchTree x = Check.tree(0, 10, 20, 80, 50, 90, 51, 90, 99, 20);
            int[][] dues = {{0, 99, 5}, {0, 0, 1}, {99, 99, 1}, {1, 98, 3}, {20, 50, 2}, {20, 51, 3}, {21, 50, 1}, {21, 49, 0},
                {1, 19, 0}, {52, 98, 0}, {50, 51, 2}, {0, 98, 4}, {1, 99, 4}};
            for (int[] due : dues) {
                Check.due(due[2], () -> use.of(x, due[0], due[1]));
            }
        });
        Edges.low(promise, LOW, use, 3, 1);
        Edges.high(promise, HIGH, use, 1, 3);
        Sentence.of(promise, returns, () -> {
            Check.due(0, () -> use.of(new PrioritySearchTree(), 0, 99));
            for (PrioritySearchTree full : new PrioritySearchTree[] {Check.full(7), Check.fullToTheLeft()}) {
                Check.due(24, () -> use.of(full, 0, 99));
                Check.due(24, () -> use.of(full, 0, 23));
                Check.due(23, () -> use.of(full, 1, 23));
                Check.due(23, () -> use.of(full, 0, 22));
                Check.due(0, () -> use.of(full, 24, 99));
                for (int i = 0; i < 24; i++) {
                    int key = i;
                    Check.due(1, () -> use.of(full, key, key));
                    Check.due(key + 1, () -> use.of(full, 0, key));
                    Check.due(24 - key, () -> use.of(full, key, 99));
                }
            }
        });
        Edges.wrongRange(promise, use);
    }

    private static void top(int promise, Edges.OfRange use, String what, String returns) {
        Sentence.of(promise, what, () -> {
            PrioritySearchTree x = Check.tree(0, 10, 20, 80, 50, 90, 60, 70, 99, 99);
            int[][] dues = {{0, 99, 99}, {0, 98, 50}, {0, 49, 20}, {0, 19, 0}, {0, 0, 0}, {51, 98, 60}, {99, 99, 99}, {20, 20, 20},
                {21, 60, 50}, {1, 20, 20}};
            for (int[] due : dues) {
                Check.due(due[2], () -> use.of(x, due[0], due[1]));
            }
        });
        Edges.low(promise, LOW, use, 50, 99);
        Edges.high(promise, HIGH, use, 0, 50);
        Sentence.of(promise, returns, () -> {
            PrioritySearchTree same = Check.tree(99, 5, 50, 5, 0, 5, 51, 5, 49, 4);
            int[][] dues = {{0, 99, 0}, {1, 99, 50}, {50, 51, 50}, {51, 99, 51}, {52, 99, 99}, {1, 49, 49}};
            for (int[] due : dues) {
                Check.due(due[2], () -> use.of(same, due[0], due[1]));
            }
            PrioritySearchTree right = Check.full(7);
            PrioritySearchTree left = Check.fullToTheLeft();
            for (int i = 0; i < 24; i++) {
                int key = i;
                Check.due(key, () -> use.of(right, key, 99));
                Check.due(0, () -> use.of(right, 0, key));
                Check.due(23, () -> use.of(left, key, 99));
                Check.due(key, () -> use.of(left, 0, key));
            }
        });
        Edges.wrongRange(promise, use);
        Sentence.of(promise, "Throws `NoSuchElementException` if there is no point in the range", () -> {
            for (int[] range : new int[][] {{1, 49}, {51, 98}, {1, 1}, {98, 98}, {49, 49}, {51, 51}}) {
                Check.fails(Check.NSEE, () -> use.of(Edges.ends(), range[0], range[1]));
            }
            for (int[] range : new int[][] {{0, 99}, {0, 0}, {99, 99}}) {
                Check.fails(Check.NSEE, () -> use.of(new PrioritySearchTree(), range[0], range[1]));
            }
            Check.fails(Check.NSEE, () -> use.of(Check.full(7), 24, 99));
            Twins.refused(Check.NSEE, Twins::workedWithInput, x -> use.of(x, 0, 9));
            Twins.refused(Check.NSEE, Twins::workedWithInput, x -> use.of(x, 71, 99));
            Twins.refused(Check.NSEE, PrioritySearchTree::new, x -> use.of(x, 0, 99));
            PrioritySearchTree x = Edges.ends();
            Check.due(50, () -> use.of(x, 1, 98));
            x.moveKey(50, 1);
            Check.fails(Check.NSEE, () -> use.of(x, 2, 98));
        });
    }

    private interface OfAbove {
        Object of(PrioritySearchTree x, int low, int high, int priority);
    }

    private static void above(int promise, OfAbove use, String what, String returns) {
        Sentence.of(promise, what, () -> {
            PrioritySearchTree x = Check.tree(0, 10, 20, 80, 50, 90, 60, 80, 99, 0);
            int[][] dues = {{0, 99, 80, 3}, {0, 99, 81, 1}, {0, 99, 79, 3}, {0, 99, 90, 1}, {0, 99, 91, 0}, {0, 99, 10, 4},
                {0, 99, 11, 3}, {20, 60, 80, 3}, {21, 60, 80, 2}, {20, 59, 80, 2}, {21, 49, 0, 0}, {99, 99, 0, 1}, {99, 99, 1, 0},
                {0, 0, 10, 1}, {0, 0, 11, 0}};
            for (int[] due : dues) {
                Check.due(due[3], () -> use.of(x, due[0], due[1], due[2]));
            }
        });
        Edges.low(promise, LOW, (x, low, high) -> use.of(x, low, high, 20), 2, 1);
        Edges.high(promise, HIGH, (x, low, high) -> use.of(x, low, high, 10), 1, 3);
        Sentence.of(promise, "- `priority`: the lowest priority, 0 to 99", () -> {
            PrioritySearchTree x = Check.tree(5, 0, 6, 98, 7, 99);
            Check.due(3, () -> use.of(x, 0, 99, 0));
            Check.due(2, () -> use.of(x, 0, 99, 1));
            Check.due(2, () -> use.of(x, 0, 99, 98));
            Check.due(1, () -> use.of(x, 0, 99, 99));
            Check.due(0, () -> use.of(Check.tree(5, 98), 0, 99, 99));
            Check.fails(Check.IAE, () -> use.of(x, 0, 99, -1));
            Check.fails(Check.IAE, () -> use.of(x, 0, 99, 100));
        });
        Sentence.of(promise, returns, () -> {
            Check.due(0, () -> use.of(new PrioritySearchTree(), 0, 99, 0));
            Check.due(24, () -> use.of(Check.full(7), 0, 99, 7));
            Check.due(0, () -> use.of(Check.full(7), 0, 99, 8));
            Check.due(22, () -> use.of(Check.full(7), 1, 22, 0));
            PrioritySearchTree left = Check.fullToTheLeft();
            for (int i = 0; i < 24; i++) {
                int priority = i;
                Check.due(24 - priority, () -> use.of(left, 0, 99, priority));
                Check.due(1, () -> use.of(left, priority, priority, priority));
                Check.due(0, () -> use.of(left, priority, priority, priority + 1));
            }
        });
        Edges.wrongRange(promise, "Throws `IllegalArgumentException` if low, high or priority is out of range, or low is greater"
                + " than high", (x, low, high) -> use.of(x, low, high, 0), () -> {
            for (int priority : Edges.BEYOND) {
                Check.fails(Check.IAE, () -> use.of(new PrioritySearchTree(), 0, 99, priority));
                Check.fails(Check.IAE, () -> use.of(Edges.ends(), 50, 49, priority));
                Twins.refused(Check.IAE, Twins::workedWithInput, x -> use.of(x, 0, 99, priority));
            }
        });
    }

    /** Whether a subtree is searched cannot be seen; what its points answer can. */
    private static void subtreesBelow() {
        Sentence.of(35, "Subtrees whose topmost points have lower priorities are not searched.", () -> {
            PrioritySearchTree x = Check.tree(50, 90, 20, 80, 70, 85, 10, 79, 30, 80, 60, 5, 80, 85);
            Check.due(5, () -> x.countAbove(0, 99, 80));
            Check.due(6, () -> x.countAbove(0, 99, 79));
            Check.due(3, () -> x.countAbove(0, 99, 81));
            Check.due(1, () -> x.countAbove(0, 99, 86));
            Check.due(0, () -> x.countAbove(0, 99, 91));
            // The topmost point outside of the range, with the given number as its priority, does not end the search.
            Check.due(2, () -> x.countAbove(51, 99, 85));
            Check.due(1, () -> x.countAbove(71, 99, 85));
            Check.due(1, () -> x.countAbove(21, 49, 80));
        });
    }

    private static void sum() {
        Edges.OfRange use = (x, low, high) -> x.sumInRange(low, high);
        Sentence.of(37, "Returns the sum of the priorities of the points in a range of keys.", () -> {
            PrioritySearchTree x = Check.tree(0, 1, 20, 2, 50, 4, 51, 8, 99, 16);
            int[][] dues = {{0, 99, 31}, {0, 0, 1}, {99, 99, 16}, {1, 98, 14}, {20, 50, 6}, {20, 51, 14}, {21, 50, 4}, {21, 49, 0},
                {0, 98, 15}, {1, 99, 30}};
            for (int[] due : dues) {
                Check.due((long) due[2], () -> x.sumInRange(due[0], due[1]));
            }
        });
        Edges.low(37, LOW, use, 120L, 20L);
        Edges.high(37, HIGH, use, 10L, 120L);
        Sentence.of(37, "Returns the sum.", () -> {
            Check.due(0L, () -> new PrioritySearchTree().sumInRange(0, 99));
            Check.due(0L, () -> Check.full(0).sumInRange(0, 99));
            Check.due(24L * 99, () -> Check.full(99).sumInRange(0, 99));
            Check.due(23L * 99, () -> Check.full(99).sumInRange(0, 22));
            Check.due(276L, () -> Check.fullToTheLeft().sumInRange(0, 23));
            PrioritySearchTree x = Edges.ends();
            x.changePriority(0, 99);
            Check.due(209L, () -> x.sumInRange(0, 99));
            x.delete(0);
            Check.due(110L, () -> x.sumInRange(0, 99));
        });
        Edges.wrongRange(37, use);
    }
}
