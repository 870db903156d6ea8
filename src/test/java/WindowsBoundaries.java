/** The edges that the promises 38 to 44 name. */
final class WindowsBoundaries {
    private static final String WINDOW = "- `window`: the index of a window, 0 to 3";

    private WindowsBoundaries() {
    }

    static void all() {
        set();
        setArguments();
        setRefused();
        remove();
        isSet();
        points();
        room();
        keyAt();
        canInsert();
    }

    private static void set() {
        Sentence.of(38, "Sets a window, in place of an earlier one with this index.", () -> {
            PrioritySearchTree x = Edges.ends();
            for (int i = 0; i < 4; i++) {
                int window = i;
                Check.due(3, () -> x.setWindow(window, 0, 99, 0, 3));
                Check.fails(Check.UOE, () -> x.insert(1, 1));
                // Wider, narrower and with another limit: nothing of the earlier one stays.
                Check.due(1, () -> x.setWindow(window, 50, 50, 90, 1));
                Check.due(0, () -> x.roomInWindow(window));
                Check.due(0, () -> x.insert(1, 1));
                x.delete(1);
                Check.due(2, () -> x.setWindow(window, 50, 99, 20, 24));
                Check.due(22, () -> x.roomInWindow(window));
                // Its own points do not count twice, however often it is set.
                Check.due(2, () -> x.setWindow(window, 50, 99, 20, 2));
                Check.due(2, () -> x.setWindow(window, 50, 99, 20, 2));
            }
            // The other windows stay as they are.
            x.setWindow(1, 0, 0, 0, 1);
            Check.due("50,99", () -> Check.window(x, 0));
            Check.due("0", () -> Check.window(x, 1));
            Check.due("50,99", () -> Check.window(x, 2));
            Check.due("50,99", () -> Check.window(x, 3));
        });
        Edges.window(38, (x, window) -> x.setWindow(window, 0, 99, 20, 2), 2, 2, 2, 2);
    }

    private static void setArguments() {
        Edges.low(38, "- `low`: the lowest key of the window, 0 to 99", (x, low, high) -> x.setWindow(0, low, high, 0, 24), 3, 1);
        Edges.high(38, "- `high`: the greatest key of the window, 0 to 99", (x, low, high) -> x.setWindow(0, low, high, 0, 24), 1,
                3);
        Sentence.of(38, "- `priority`: the lowest priority of the window, 0 to 99", () -> {
            PrioritySearchTree x = Check.tree(5, 0, 6, 98, 7, 99);
            Check.due(3, () -> x.setWindow(0, 0, 99, 0, 3));
            Check.due(2, () -> x.setWindow(0, 0, 99, 1, 3));
            Check.due(1, () -> x.setWindow(0, 0, 99, 99, 3));
            Check.due("7", () -> Check.window(x, 0));
            Check.fails(Check.IAE, () -> x.setWindow(0, 0, 99, -1, 3));
            Check.fails(Check.IAE, () -> x.setWindow(0, 0, 99, 100, 3));
            Check.due("7", () -> Check.window(x, 0));
        });
        Sentence.of(38, "- `limit`: the limit, 1 to 24", () -> {
            PrioritySearchTree x = Check.tree(5, 5);
            Check.due(1, () -> x.setWindow(0, 0, 99, 0, 1));
            Check.due(0, () -> x.roomInWindow(0));
            Check.due(1, () -> x.setWindow(0, 0, 99, 0, 24));
            Check.due(23, () -> x.roomInWindow(0));
            for (int limit : new int[] {0, 25, -1, 99, Edges.MIN, Edges.MAX}) {
                Check.fails(Check.IAE, () -> x.setWindow(0, 0, 99, 0, limit));
            }
            Check.due(23, () -> x.roomInWindow(0));
        });
        Sentence.of(38, "Returns the number of points in the window.", () -> {
            Check.due(0, () -> new PrioritySearchTree().setWindow(0, 0, 99, 0, 1));
            Check.due(0, () -> Edges.ends().setWindow(0, 1, 49, 0, 1));
            Check.due(0, () -> Edges.ends().setWindow(0, 0, 99, 91, 1));
            Check.due(1, () -> Edges.ends().setWindow(0, 0, 99, 90, 1));
            Check.due(24, () -> Check.full(7).setWindow(0, 0, 23, 7, 24));
            Check.due(0, () -> Check.full(7).setWindow(0, 0, 23, 8, 1));
            Check.due(22, () -> Check.full(7).setWindow(0, 1, 22, 7, 22));
        });
    }

    private static void setRefused() {
        Edges.noWindow(38, (x, window) -> x.setWindow(window, 0, 99, 0, 24));
        Sentence.of(38, "Throws `IllegalArgumentException` if low, high, priority or limit is out of range, or low is greater than"
                + " high", () -> {
            int[][] wrongs = {{-1, 99, 0, 24}, {100, 100, 0, 24}, {0, 100, 0, 24}, {0, -1, 0, 24}, {1, 0, 0, 24}, {99, 98, 0, 24},
                {50, 49, 0, 24}, {0, 99, -1, 24}, {0, 99, 100, 24}, {0, 99, 0, 0}, {0, 99, 0, 25}, {0, 99, 0, -1},
                {Edges.MIN, 99, 0, 24}, {0, Edges.MAX, 0, 24}, {0, 99, Edges.MIN, 24}, {0, 99, Edges.MAX, 24},
                {0, 99, 0, Edges.MIN}, {0, 99, 0, Edges.MAX}, {Edges.MAX, Edges.MIN, 0, 24},
                // Ahead of the rejection: there would be more points than the limit.
                {-1, 99, 0, 1}, {0, 100, 0, 1}, {0, 99, -1, 1}, {0, 99, 0, 0}};
            for (int[] wrong : wrongs) {
                for (int window : new int[] {1, 3}) {
                    Twins.refused(Check.IAE, Twins::workedWithInput,
                            x -> x.setWindow(window, wrong[0], wrong[1], wrong[2], wrong[3]));
                }
                Check.fails(Check.IAE, () -> new PrioritySearchTree().setWindow(0, wrong[0], wrong[1], wrong[2], wrong[3]));
            }
        });
        Sentence.of(38, "Throws `UnsupportedOperationException` if the call is rejected with the reason WINDOW_FULL", () -> {
            for (int i = 0; i < 4; i++) {
                int window = i;
                Twins.rejected(3, window, Twins::workedWithInput, x -> x.setWindow(window, 0, 99, 0, 4));
                Twins.rejected(3, window, Twins::workedWithInput, x -> x.setWindow(window, 20, 50, 20, 2));
                Twins.rejected(3, window, Twins::full, x -> x.setWindow(window, 0, 99, 0, 23));
                Twins.rejected(3, window, Twins::full, x -> x.setWindow(window, 0, 1, 7, 1));
                Check.due(5, () -> Twins.worked().setWindow(window, 0, 99, 0, 5));
                Check.due(3, () -> Twins.worked().setWindow(window, 20, 50, 20, 3));
                Check.due(24, () -> Check.full(7).setWindow(window, 0, 99, 0, 24));
            }
            // A narrower window and a greater lowest priority have room.
            Check.due(2, () -> Twins.worked().setWindow(1, 21, 50, 20, 2));
            Check.due(2, () -> Twins.worked().setWindow(1, 20, 49, 20, 2));
            Check.due(2, () -> Twins.worked().setWindow(1, 20, 50, 21, 2));
        });
    }

    private static void remove() {
        Edges.OfKey use = (x, window) -> x.removeWindow(window);
        Sentence.of(39, "Removes a window.", () -> {
            PrioritySearchTree x = Twins.worked();
            Check.fails(Check.UOE, () -> x.insert(60, 0));
            x.removeWindow(2);
            Check.due(false, () -> x.isWindowSet(2));
            Check.due(true, () -> x.isWindowSet(1));
            Check.due(0, () -> x.insert(60, 0));
            // It can be set again, and removed again.
            Check.due(2, () -> x.setWindow(2, 60, 99, 0, 2));
            Check.due(2, () -> x.removeWindow(2));
            Check.fails(Check.NSEE, () -> x.removeWindow(2));
        });
        Edges.window(39, use, 3, 1, 0, 2);
        Sentence.of(39, "Returns the number of points that were in it.", () -> {
            PrioritySearchTree full = Check.full(7);
            full.setWindow(0, 0, 99, 0, 24);
            full.setWindow(1, 0, 99, 8, 24);
            Check.due(24, () -> full.removeWindow(0));
            Check.due(0, () -> full.removeWindow(1));
            Check.due(24, full::size);
            // The points that are there now, and not those when it was set.
            PrioritySearchTree x = Edges.windows();
            x.deleteRange(0, 50);
            Check.due(1, () -> x.removeWindow(0));
            Check.due(0, () -> x.removeWindow(3));
        });
        Edges.noWindow(39, use);
        Edges.notSet(39, use);
    }

    private static void isSet() {
        Sentence.of(40, "Tells whether a window is set.", () -> {
            PrioritySearchTree x = new PrioritySearchTree();
            Check.due(false, () -> x.isWindowSet(0));
            x.setWindow(0, 0, 99, 0, 1);
            Check.due(true, () -> x.isWindowSet(0));
            x.removeWindow(0);
            Check.due(false, () -> x.isWindowSet(0));
            x.undo();
            Check.due(true, () -> x.isWindowSet(0));
            x.undo();
            Check.due(false, () -> x.isWindowSet(0));
        });
        Edges.window(40, (x, window) -> x.isWindowSet(window), true, true, true, true);
        Sentence.of(40, "Returns whether it is set.", () -> {
            for (int i = 0; i < 4; i++) {
                int window = i;
                Check.due(false, () -> new PrioritySearchTree().isWindowSet(window));
                PrioritySearchTree x = Edges.windows();
                x.removeWindow(window);
                for (int j = 0; j < 4; j++) {
                    int other = j;
                    Check.due(other != window, () -> x.isWindowSet(other));
                }
            }
            // A window without points, and one that was refused.
            PrioritySearchTree x = Check.tree(5, 5, 6, 6);
            x.setWindow(0, 7, 7, 99, 1);
            Check.due(true, () -> x.isWindowSet(0));
            Check.outcome(() -> x.setWindow(1, 0, 99, 0, 1));
            Check.outcome(() -> x.setWindow(2, 0, 99, 0, 0));
            Check.due(false, () -> x.isWindowSet(1) || x.isWindowSet(2));
        });
        Edges.noWindow(40, (x, window) -> x.isWindowSet(window));
    }

    private static void points() {
        Edges.OfKey use = (x, window) -> x.pointsInWindow(window);
        Sentence.of(41, "Returns the number of points in a window.", () -> {
            PrioritySearchTree x = new PrioritySearchTree();
            x.setWindow(0, 10, 20, 30, 24);
            int[][] points = {{9, 99, 0}, {10, 30, 1}, {11, 29, 1}, {20, 31, 2}, {21, 99, 2}, {19, 99, 3}};
            for (int[] point : points) {
                x.insert(point[0], point[1]);
                Check.due(point[2], () -> x.pointsInWindow(0));
            }
            x.changePriority(11, 30);
            Check.due(4, () -> x.pointsInWindow(0));
            x.changePriority(10, 29);
            Check.due(3, () -> x.pointsInWindow(0));
            x.moveKey(20, 22);
            Check.due(2, () -> x.pointsInWindow(0));
            x.moveKey(9, 20);
            Check.due(3, () -> x.pointsInWindow(0));
            x.deleteRange(0, 99);
            Check.due(0, () -> x.pointsInWindow(0));
        });
        Edges.window(41, use, 3, 1, 0, 2);
        Sentence.of(41, "Returns the number of points.", () -> {
            PrioritySearchTree full = Check.full(7);
            full.setWindow(0, 0, 99, 0, 24);
            full.setWindow(1, 0, 99, 8, 1);
            full.setWindow(2, 23, 23, 7, 1);
            Check.due(24, () -> full.pointsInWindow(0));
            Check.due(0, () -> full.pointsInWindow(1));
            Check.due(1, () -> full.pointsInWindow(2));
        });
        Edges.noWindow(41, use);
        Edges.notSet(41, use);
    }

    private static void room() {
        Edges.OfKey use = (x, window) -> x.roomInWindow(window);
        Sentence.of(42, "Returns how many more points a window can have.", () -> {
            PrioritySearchTree x = new PrioritySearchTree();
            x.setWindow(3, 0, 99, 0, 24);
            for (int i = 0; i < 24; i++) {
                int key = i;
                Check.due(24 - key, () -> x.roomInWindow(3));
                x.insert(key, 50);
            }
            Check.due(0, () -> x.roomInWindow(3));
            x.delete(0);
            Check.due(1, () -> x.roomInWindow(3));
        });
        Edges.window(42, use, 21, 0, 2, 1);
        Sentence.of(42, "Returns the limit minus the number of points in the window.", () -> {
            PrioritySearchTree x = Check.tree(5, 5);
            x.setWindow(0, 0, 99, 0, 1);
            x.setWindow(1, 0, 99, 6, 1);
            x.setWindow(2, 0, 99, 0, 24);
            x.setWindow(3, 0, 99, 6, 24);
            int[] rooms = {0, 1, 23, 24};
            for (int i = 0; i < 4; i++) {
                int window = i;
                Check.due(rooms[window], () -> x.roomInWindow(window));
            }
            x.setWindow(3, 0, 99, 0, 3);
            Check.due(2, () -> x.roomInWindow(3));
        });
        Edges.noWindow(42, use);
        Edges.notSet(42, use);
    }

    private static void keyAt() {
        Sentence.of(43, "Returns the key of a point in a window.", () -> {
            PrioritySearchTree x = Check.tree(50, 90, 20, 80, 70, 90, 10, 10, 0, 80, 99, 0);
            x.setWindow(1, 10, 99, 10, 6);
            int[] keys = {10, 20, 50, 70};
            for (int i = 0; i < keys.length; i++) {
                int position = i;
                Check.due(keys[i], () -> x.windowKeyAt(1, position));
            }
        });
        Edges.window(43, (x, window) -> window == 2 ? Check.outcome(() -> x.windowKeyAt(window, 0)) : x.windowKeyAt(window, 0), 0,
                50, Check.NSEE, 0);
        Sentence.of(43, "- `position`: the position in ascending order of keys, from 0", () -> {
            PrioritySearchTree x = Edges.windows();
            Check.due(0, () -> x.windowKeyAt(0, 0));
            Check.due(50, () -> x.windowKeyAt(0, 1));
            Check.due(99, () -> x.windowKeyAt(0, 2));
            Check.fails(Check.NSEE, () -> x.windowKeyAt(0, -1));
            Check.fails(Check.NSEE, () -> x.windowKeyAt(0, 3));
        });
        Sentence.of(43, "Returns the key.", () -> {
            for (PrioritySearchTree full : new PrioritySearchTree[] {Check.full(7), Check.fullToTheLeft()}) {
                full.setWindow(0, 0, 99, 0, 24);
                full.setWindow(3, 2, 20, 0, 24);
                for (int i = 0; i < 24; i++) {
                    int position = i;
                    Check.due(position, () -> full.windowKeyAt(0, position));
                }
                Check.due(2, () -> full.windowKeyAt(3, 0));
                Check.due(20, () -> full.windowKeyAt(3, 18));
            }
        });
        Edges.noWindow(43, (x, window) -> x.windowKeyAt(window, 0));
        Edges.notSet(43, "Throws `NoSuchElementException` if this window is not set, or there is no such position",
                (x, window) -> x.windowKeyAt(window, 0), () -> {
            for (int position : new int[] {-1, 3, 24, Edges.MIN, Edges.MAX}) {
                Check.fails(Check.NSEE, () -> Edges.windows().windowKeyAt(0, position));
                Check.fails(Check.NSEE, () -> Edges.windows().windowKeyAt(2, position));
                Check.fails(Check.NSEE, () -> new PrioritySearchTree().windowKeyAt(0, position));
                Twins.refused(Check.NSEE, Twins::workedWithInput, x -> x.windowKeyAt(1, position));
                // The exception for the window is listed first.
                Twins.refused(Check.IOOBE, Twins::workedWithInput, x -> x.windowKeyAt(4, position));
            }
            // There are points enough, but not in the window.
            Check.fails(Check.NSEE, () -> Edges.windows().windowKeyAt(1, 1));
            Check.fails(Check.NSEE, () -> Edges.windows().windowKeyAt(2, 0));
            Check.fails(Check.NSEE, () -> Edges.windows().windowKeyAt(3, 2));
            PrioritySearchTree full = Check.full(7);
            full.setWindow(0, 0, 99, 0, 24);
            Check.fails(Check.NSEE, () -> full.windowKeyAt(0, 24));
        });
    }

    private static void canInsert() {
        Sentence.of(44, "Tells whether a point could be inserted now.", () -> {
            PrioritySearchTree x = Twins.worked();
            Check.due(false, () -> x.canInsert(40, 5));
            x.delete(10);
            Check.due(true, () -> x.canInsert(40, 5));
            x.insert(40, 5);
            Check.due(false, () -> x.canInsert(40, 5));
            Check.due(false, () -> x.canInsert(41, 5));
            // To ask inserts nothing.
            Check.due(true, () -> x.canInsert(51, 51));
            Check.due(false, () -> x.contains(51));
            Check.due(true, () -> x.canInsert(51, 51));
        });
        Sentence.of(44, "- `key`: the key, 0 to 99", () -> {
            Check.due(true, () -> new PrioritySearchTree().canInsert(0, 50));
            Check.due(true, () -> new PrioritySearchTree().canInsert(99, 50));
            Check.due(false, () -> Edges.ends().canInsert(0, 50));
            Check.due(false, () -> Edges.ends().canInsert(99, 50));
            Check.fails(Check.IAE, () -> Edges.ends().canInsert(-1, 50));
            Check.fails(Check.IAE, () -> Edges.ends().canInsert(100, 50));
        });
        Sentence.of(44, "- `priority`: the priority, 0 to 99", () -> {
            PrioritySearchTree x = Check.tree(5, 0);
            x.setWindow(0, 0, 99, 0, 1);
            Check.due(false, () -> x.canInsert(6, 0));
            Check.due(false, () -> x.canInsert(6, 99));
            x.setWindow(0, 0, 5, 0, 1);
            Check.due(true, () -> x.canInsert(6, 0));
            Check.due(true, () -> x.canInsert(6, 99));
            Check.fails(Check.IAE, () -> x.canInsert(6, -1));
            Check.fails(Check.IAE, () -> x.canInsert(6, 100));
        });
        Sentence.of(44, "Returns whether insert would not be rejected.", () -> {
            // For each point that could be inserted: the answer, and what insert does then.
            for (int key = 0; key < 100; key += 3) {
                for (int priority : new int[] {0, 4, 5, 99}) {
                    likeInsert(Twins.worked(), key, priority);
                    likeInsert(Twins.worked(), Math.min(key + 1, 99), priority);
                }
            }
            PrioritySearchTree full = Check.full(7);
            likeInsert(full, 0, 0);
            likeInsert(full, 99, 99);
            full.delete(23);
            likeInsert(full, 99, 99);
            likeInsert(full, 98, 99);
        });
        Sentence.of(44, "Throws `IllegalArgumentException` if key or priority is out of range", () -> {
            for (int wrong : Edges.BEYOND) {
                Twins.refused(Check.IAE, Twins::workedWithInput, x -> x.canInsert(wrong, 50));
                Twins.refused(Check.IAE, Twins::workedWithInput, x -> x.canInsert(55, wrong));
                Twins.refused(Check.IAE, Twins::workedWithInput, x -> x.canInsert(20, wrong));
                Twins.refused(Check.IAE, Twins::full, x -> x.canInsert(wrong, wrong));
            }
        });
    }

    private static void likeInsert(PrioritySearchTree x, int key, int priority) {
        boolean can = x.canInsert(key, priority);
        Object inserted = Check.outcome(() -> x.insert(key, priority));
        Check.due("canInsert and insert of " + key + ":" + priority, can, !Check.UOE.equals(inserted));
        Check.due("insert of " + key + ":" + priority + " was made", x.contains(key) && x.priorityOf(key) == priority
                && !Check.UOE.equals(inserted), can);
    }
}
