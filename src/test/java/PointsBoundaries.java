/** The edges that the promises 7 to 17 name. */
final class PointsBoundaries {
    private static final String NO_POINTS = "Throws `NoSuchElementException` if there are no points";
    private static final String NO_SUCH_KEY = "Throws `NoSuchElementException` if there is no such key";
    private static final String ANY_NUMBER = "- `number`: any number";
    private static final String RETURNS_KEY = "Returns the key.";

    private PointsBoundaries() {
    }

    static void all() {
        onePoint();
        ends();
        floor();
        ceiling();
        nearest();
        rank();
        ascending();
        byPriority();
    }

    private static void onePoint() {
        Sentence.of(7, "Returns the number of points.", () -> {
            PrioritySearchTree x = new PrioritySearchTree();
            for (int i = 0; i < 24; i++) {
                int key = i;
                Check.due(key, x::size);
                x.insert(key, 50);
            }
            Check.due(24, x::size);
            Check.outcome(() -> x.insert(99, 0));
            Check.due(24, x::size);
            x.deleteRange(0, 22);
            Check.due(1, x::size);
            x.delete(23);
            Check.due(0, x::size);
        });
        Sentence.of(8, "Tells whether there is a point with a key.", () -> {
            PrioritySearchTree x = Edges.ends();
            for (int key : new int[] {0, 50, 99}) {
                Check.due(true, () -> x.contains(key));
                x.delete(key);
                Check.due(false, () -> x.contains(key));
                x.undo();
                Check.due(true, () -> x.contains(key));
            }
        });
        Sentence.of(8, "- `key`: any number", () -> {
            for (int key : new int[] {-1, 100, Edges.MIN, Edges.MAX, 1, 98, 49, 51}) {
                Check.due(false, () -> Edges.ends().contains(key));
                Check.due(false, () -> new PrioritySearchTree().contains(key));
            }
        });
        Sentence.of(8, "Returns whether there is such a point.", () -> {
            PrioritySearchTree full = Check.full(7);
            for (int i = -1; i <= 24; i++) {
                int key = i;
                Check.due(key >= 0 && key < 24, () -> full.contains(key));
            }
            full.moveKey(0, 99);
            Check.due(false, () -> full.contains(0));
            Check.due(true, () -> full.contains(99));
        });
        Sentence.of(9, "Returns the priority of a point.", () -> {
            PrioritySearchTree x = Edges.ends();
            Check.due(90, () -> x.priorityOf(50));
            x.changePriority(50, 0);
            Check.due(0, () -> x.priorityOf(50));
            x.undo();
            Check.due(90, () -> x.priorityOf(50));
            x.moveKey(50, 51);
            Check.due(90, () -> x.priorityOf(51));
        });
        Edges.keyOfPoint(9, "- `key`: the key of a point", (x, key) -> x.priorityOf(key), 10, 20);
        Sentence.of(9, "Returns the priority.", () -> {
            Check.due(0, () -> Check.tree(5, 0).priorityOf(5));
            Check.due(99, () -> Check.tree(5, 99).priorityOf(5));
            for (int i = 0; i < 24; i++) {
                int key = i;
                Check.due(key, () -> Check.fullToTheLeft().priorityOf(key));
            }
        });
        Edges.noPoint(9, (x, key) -> x.priorityOf(key));
    }

    private static void ends() {
        Sentence.of(10, "Returns the lowest key.", () -> {
            Check.due(0, () -> Edges.ends().lowestKey());
            Check.due(0, () -> Check.full(7).lowestKey());
            Check.due(0, () -> Check.fullToTheLeft().lowestKey());
        });
        Sentence.of(10, RETURNS_KEY, () -> {
            PrioritySearchTree x = Check.tree(99, 5);
            Check.due(99, x::lowestKey);
            x.insert(98, 99);
            Check.due(98, x::lowestKey);
            x.insert(0, 0);
            Check.due(0, x::lowestKey);
            x.delete(0);
            Check.due(98, x::lowestKey);
        });
        Edges.noPoints(10, Check.NSEE, NO_POINTS, PrioritySearchTree::lowestKey);
        Sentence.of(11, "Returns the greatest key.", () -> {
            Check.due(99, () -> Edges.ends().greatestKey());
            Check.due(23, () -> Check.full(7).greatestKey());
            Check.due(23, () -> Check.fullToTheLeft().greatestKey());
        });
        Sentence.of(11, RETURNS_KEY, () -> {
            PrioritySearchTree x = Check.tree(0, 5);
            Check.due(0, x::greatestKey);
            x.insert(1, 99);
            Check.due(1, x::greatestKey);
            x.insert(99, 0);
            Check.due(99, x::greatestKey);
            x.delete(99);
            Check.due(1, x::greatestKey);
        });
        Edges.noPoints(11, Check.NSEE, NO_POINTS, PrioritySearchTree::greatestKey);
    }

    private static void floor() {
        Sentence.of(12, "Returns the greatest key that is not greater than a number.", () -> {
            PrioritySearchTree x = Edges.ends();
            int[][] dues = {{0, 0}, {1, 0}, {49, 0}, {50, 50}, {51, 50}, {98, 50}, {99, 99}, {100, 99}};
            for (int[] due : dues) {
                Check.due(due[1], () -> x.floorKey(due[0]));
            }
        });
        Sentence.of(12, ANY_NUMBER, () -> {
            Check.due(99, () -> Edges.ends().floorKey(Edges.MAX));
            Check.due(99, () -> Edges.ends().floorKey(100));
            Check.fails(Check.NSEE, () -> Edges.ends().floorKey(-1));
            Check.fails(Check.NSEE, () -> Edges.ends().floorKey(Edges.MIN));
        });
        Sentence.of(12, RETURNS_KEY, () -> {
            for (PrioritySearchTree full : new PrioritySearchTree[] {Check.full(7), Check.fullToTheLeft()}) {
                for (int i = 0; i < 30; i++) {
                    int number = i;
                    Check.due(Math.min(number, 23), () -> full.floorKey(number));
                }
            }
        });
        Sentence.of(12, NO_SUCH_KEY, () -> {
            PrioritySearchTree x = Check.tree(50, 5, 99, 9);
            Check.due(50, () -> x.floorKey(50));
            Check.fails(Check.NSEE, () -> x.floorKey(49));
            Check.fails(Check.NSEE, () -> x.floorKey(Edges.MIN));
            for (int number : new int[] {0, 99, Edges.MAX, Edges.MIN}) {
                Check.fails(Check.NSEE, () -> new PrioritySearchTree().floorKey(number));
            }
            Twins.refused(Check.NSEE, Twins::workedWithInput, y -> y.floorKey(9));
            Twins.refused(Check.NSEE, PrioritySearchTree::new, y -> y.floorKey(99));
        });
    }

    private static void ceiling() {
        Sentence.of(13, "Returns the lowest key that is not less than a number.", () -> {
            PrioritySearchTree x = Edges.ends();
            int[][] dues = {{-1, 0}, {0, 0}, {1, 50}, {49, 50}, {50, 50}, {51, 99}, {98, 99}, {99, 99}};
            for (int[] due : dues) {
                Check.due(due[1], () -> x.ceilingKey(due[0]));
            }
        });
        Sentence.of(13, ANY_NUMBER, () -> {
            Check.due(0, () -> Edges.ends().ceilingKey(Edges.MIN));
            Check.due(0, () -> Edges.ends().ceilingKey(-1));
            Check.fails(Check.NSEE, () -> Edges.ends().ceilingKey(100));
            Check.fails(Check.NSEE, () -> Edges.ends().ceilingKey(Edges.MAX));
        });
        Sentence.of(13, RETURNS_KEY, () -> {
            for (PrioritySearchTree full : new PrioritySearchTree[] {Check.full(7), Check.fullToTheLeft()}) {
                for (int i = -5; i < 24; i++) {
                    int number = i;
                    Check.due(Math.max(number, 0), () -> full.ceilingKey(number));
                }
            }
        });
        Sentence.of(13, NO_SUCH_KEY, () -> {
            PrioritySearchTree x = Check.tree(0, 5, 50, 9);
            Check.due(50, () -> x.ceilingKey(50));
            Check.fails(Check.NSEE, () -> x.ceilingKey(51));
            Check.fails(Check.NSEE, () -> x.ceilingKey(Edges.MAX));
            for (int number : new int[] {0, 99, Edges.MAX, Edges.MIN}) {
                Check.fails(Check.NSEE, () -> new PrioritySearchTree().ceilingKey(number));
            }
            Twins.refused(Check.NSEE, Twins::workedWithInput, y -> y.ceilingKey(71));
            Twins.refused(Check.NSEE, PrioritySearchTree::new, y -> y.ceilingKey(0));
        });
    }

    private static void nearest() {
        Sentence.of(14, "Returns the key with the smallest difference from a number.", () -> {
            PrioritySearchTree x = Edges.ends();
            int[][] dues = {{0, 0}, {24, 0}, {26, 50}, {49, 50}, {50, 50}, {51, 50}, {74, 50}, {75, 99}, {99, 99}};
            for (int[] due : dues) {
                Check.due(due[1], () -> x.nearestKey(due[0]));
            }
            // The greatest differences there are.
            Check.due(99, () -> Check.tree(99, 0).nearestKey(0));
            Check.due(0, () -> Check.tree(0, 0).nearestKey(99));
            // Below all keys, and above all of them.
            PrioritySearchTree inside = Check.tree(40, 5, 60, 9);
            for (int i = 0; i < 49; i++) {
                int number = i;
                Check.due(40, () -> inside.nearestKey(number));
                Check.due(60, () -> inside.nearestKey(99 - number));
            }
        });
        Sentence.of(14, "Of two such keys, the lower one is returned.", () -> {
            Check.due(0, () -> Edges.ends().nearestKey(25));
            // Whichever of the two is the root, or has the greater priority.
            Check.due(40, () -> Check.tree(40, 1, 60, 9).nearestKey(50));
            Check.due(40, () -> Check.tree(40, 9, 60, 1).nearestKey(50));
            Check.due(49, () -> Check.tree(51, 9, 49, 9).nearestKey(50));
            Check.due(60, () -> Check.tree(40, 9, 60, 1).nearestKey(51));
            Check.due(0, () -> Check.tree(0, 0, 98, 0).nearestKey(49));
            Check.due(1, () -> Check.tree(99, 0, 1, 0).nearestKey(50));
        });
        Sentence.of(14, "- `number`: the number, 0 to 99", () -> {
            Check.due(0, () -> Edges.ends().nearestKey(0));
            Check.due(99, () -> Edges.ends().nearestKey(99));
            Check.due(50, () -> Check.tree(50, 5).nearestKey(0));
            Check.due(50, () -> Check.tree(50, 5).nearestKey(99));
            Check.fails(Check.IAE, () -> Edges.ends().nearestKey(-1));
            Check.fails(Check.IAE, () -> Edges.ends().nearestKey(100));
        });
        Sentence.of(14, RETURNS_KEY, () -> {
            for (PrioritySearchTree full : new PrioritySearchTree[] {Check.full(7), Check.fullToTheLeft()}) {
                for (int i = 0; i < 100; i++) {
                    int number = i;
                    Check.due(Math.min(number, 23), () -> full.nearestKey(number));
                }
            }
        });
        Sentence.of(14, "Throws `IllegalArgumentException` if number is out of range", () -> {
            for (int number : Edges.BEYOND) {
                Twins.refused(Check.IAE, Twins::workedWithInput, x -> x.nearestKey(number));
                // Ahead of the exception for no points.
                Twins.refused(Check.IAE, PrioritySearchTree::new, x -> x.nearestKey(number));
            }
        });
        Edges.noPoints(14, Check.NSEE, NO_POINTS, x -> x.nearestKey(50));
    }

    private static void rank() {
        Sentence.of(15, "Returns the number of points whose keys are lower than a number.", () -> {
            PrioritySearchTree x = Edges.ends();
            int[][] dues = {{0, 0}, {1, 1}, {50, 1}, {51, 2}, {99, 2}, {100, 3}, {-1, 0}};
            for (int[] due : dues) {
                Check.due(due[1], () -> x.rankOf(due[0]));
            }
        });
        Sentence.of(15, ANY_NUMBER, () -> {
            Check.due(0, () -> Edges.ends().rankOf(Edges.MIN));
            Check.due(3, () -> Edges.ends().rankOf(Edges.MAX));
            for (int number : new int[] {Edges.MIN, -1, 0, 99, 100, Edges.MAX}) {
                Check.due(0, () -> new PrioritySearchTree().rankOf(number));
            }
        });
        Sentence.of(15, "Returns the number of points.", () -> {
            for (PrioritySearchTree full : new PrioritySearchTree[] {Check.full(7), Check.fullToTheLeft()}) {
                for (int i = 0; i <= 24; i++) {
                    int number = i;
                    Check.due(number, () -> full.rankOf(number));
                }
                Check.due(24, () -> full.rankOf(Edges.MAX));
            }
        });
    }

    private static void ascending() {
        Sentence.of(16, "Returns a key by its position in ascending order.", () -> {
            PrioritySearchTree x = Edges.ends();
            Check.due(0, () -> x.keyAt(0));
            Check.due(50, () -> x.keyAt(1));
            Check.due(99, () -> x.keyAt(2));
        });
        Sentence.of(16, "- `position`: the position, from 0", () -> {
            Check.due(5, () -> Check.tree(5, 5).keyAt(0));
            Check.fails(Check.NSEE, () -> Check.tree(5, 5).keyAt(-1));
            Check.fails(Check.NSEE, () -> Check.tree(5, 5).keyAt(1));
        });
        Sentence.of(16, RETURNS_KEY, () -> {
            for (PrioritySearchTree full : new PrioritySearchTree[] {Check.full(7), Check.fullToTheLeft()}) {
                for (int i = 0; i < 24; i++) {
                    int position = i;
                    Check.due(position, () -> full.keyAt(position));
                }
                full.moveKey(0, 99);
                Check.due(1, () -> full.keyAt(0));
                Check.due(99, () -> full.keyAt(23));
            }
        });
        noPosition(16, (x, position) -> x.keyAt(position));
    }

    private static void byPriority() {
        Sentence.of(17, "Returns a key by its position in the order of priorities, the greatest priority first.", () -> {
            PrioritySearchTree x = Edges.ends();
            Check.due(50, () -> x.keyByPriority(0));
            Check.due(99, () -> x.keyByPriority(1));
            Check.due(0, () -> x.keyByPriority(2));
            PrioritySearchTree ends = Check.tree(5, 0, 6, 99);
            Check.due(6, () -> ends.keyByPriority(0));
            Check.due(5, () -> ends.keyByPriority(1));
        });
        Sentence.of(17, "Of points with the same priority, the one with the lower key comes first.", () -> {
            PrioritySearchTree x = Check.tree(99, 5, 0, 5, 50, 5, 49, 6, 51, 4);
            int[] keys = {49, 0, 50, 99, 51};
            for (int i = 0; i < keys.length; i++) {
                int position = i;
                Check.due(keys[i], () -> x.keyByPriority(position));
            }
        });
        Sentence.of(17, "- `position`: the position, from 0", () -> {
            Check.due(5, () -> Check.tree(5, 5).keyByPriority(0));
            Check.fails(Check.NSEE, () -> Check.tree(5, 5).keyByPriority(-1));
            Check.fails(Check.NSEE, () -> Check.tree(5, 5).keyByPriority(1));
        });
        Sentence.of(17, RETURNS_KEY, () -> {
            PrioritySearchTree same = Check.full(7);
            PrioritySearchTree rising = Check.fullToTheLeft();
            for (int i = 0; i < 24; i++) {
                int position = i;
                Check.due(position, () -> same.keyByPriority(position));
                Check.due(23 - position, () -> rising.keyByPriority(position));
            }
            same.changePriority(23, 8);
            Check.due(23, () -> same.keyByPriority(0));
            same.changePriority(23, 6);
            Check.due(23, () -> same.keyByPriority(23));
        });
        noPosition(17, (x, position) -> x.keyByPriority(position));
    }

    private static void noPosition(int promise, Edges.OfKey use) {
        Sentence.of(promise, "Throws `NoSuchElementException` if there is no such position", () -> {
            for (int position : new int[] {-1, 3, 24, Edges.MIN, Edges.MAX}) {
                Check.fails(Check.NSEE, () -> use.of(Edges.ends(), position));
            }
            for (int position : new int[] {-1, 0, 1, Edges.MIN, Edges.MAX}) {
                Check.fails(Check.NSEE, () -> use.of(new PrioritySearchTree(), position));
            }
            for (int position : new int[] {-1, 24, 25, 100, Edges.MIN, Edges.MAX}) {
                Check.fails(Check.NSEE, () -> use.of(Check.full(7), position));
                Check.fails(Check.NSEE, () -> use.of(Check.fullToTheLeft(), position));
            }
            // The last position goes with the point.
            PrioritySearchTree x = Edges.ends();
            Check.due(false, () -> use.of(x, 2) instanceof Class);
            x.delete(50);
            Check.fails(Check.NSEE, () -> use.of(x, 2));
            Twins.refused(Check.NSEE, Twins::workedWithInput, y -> use.of(y, -1));
            Twins.refused(Check.NSEE, Twins::workedWithInput, y -> use.of(y, 5));
            Twins.refused(Check.NSEE, PrioritySearchTree::new, y -> use.of(y, 0));
        });
    }
}
