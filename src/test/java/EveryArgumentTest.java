import java.util.Arrays;

/**
 * All arguments that the calls can have, and the first ones beyond, on trees of many shapes: each answer is compared
 * with the model's, and so is what a change leaves behind.
 */
public final class EveryArgumentTest {
    // An object is used for 512 calls, and no step takes more than one with a whole input.
    private static final int LAST_STEP = 512 - 80;
    private static final int[] PRIORITIES = {0, 1, 2, 3, 20, 21, 50, 51, 93, 99};
    private static final String[] SHAPES = {"to the left", "to the right", "zigzag", "level", "scattered", "one priority"};

    private final String shape;
    private final int[] points;
    private final int[][] windows;
    private PrioritySearchTree tree;
    private Model model;
    private int calls;

    private EveryArgumentTest(String shape, int[] points, int[]... windows) {
        this.shape = shape;
        this.points = points;
        this.windows = windows;
        begin();
    }

    public static void main(String[] args) {
        for (String shape : SHAPES) {
            for (int count : new int[] {0, 1, 2, 3, 9, 23, 24}) {
                looks(shape + " " + count, points(shape, count, 4), 100);
            }
            looks(shape + " close together", points(shape, 24, 1), 30);
        }
        looks("0 alone on its side", beside(0), 100);
        looks("99 alone on its side", beside(99), 100);
        changes();
        signs();
        Check.finish();
    }

    // ---- shapes

    /** Points whose keys have this distance, in the order in which the shape lists them. */
    private static int[] points(String shape, int count, int distance) {
        int[] points = new int[2 * count];
        for (int i = 0; i < count; i++) {
            points[2 * i] = distance * i + distance - 1;
            points[2 * i + 1] = 99 - 4 * i;
            switch (shape) {
                case "to the left" -> points[2 * i] = distance * (24 - i);
                case "zigzag" -> points[2 * i] = i % 2 == 0 ? 99 - distance * (i / 2) : distance * (i / 2);
                case "level" -> points[2 * i + 1] = 20 * Integer.numberOfTrailingZeros(i + 1) + i % 3;
                case "scattered" -> points[2 * i + 1] = (37 * i + 11) % 100;
                case "one priority" -> points[2 * i + 1] = 50;
                default -> { }
            }
        }
        return points;
    }

    /** The point 0 or 99 alone on one side of the root, and 22 others on the other side. */
    private static int[] beside(int single) {
        int[] points = new int[48];
        for (int i = 0; i < 22; i++) {
            points[2 * i] = 4 * i + 5;
            points[2 * i + 1] = 90 - 4 * i;
        }
        points[44] = single == 0 ? 1 : 98;
        points[45] = 99;
        points[46] = single;
        points[47] = 50;
        return points;
    }

    /** Windows that overlap, with these rooms left in them. */
    private static int[][] windowsFor(int[] points, int... rooms) {
        int[][] windows = {{20, 60, 21, 0}, {0, 99, 51, 0}, {21, 70, 2, 0}, {60, 99, 50, 0}};
        for (int window = 0; window < 4; window++) {
            int inside = rooms[window];
            for (int i = 0; i < points.length; i += 2) {
                boolean inRange = points[i] >= windows[window][0] && points[i] <= windows[window][1];
                inside += inRange && points[i + 1] >= windows[window][2] ? 1 : 0;
            }
            windows[window][3] = Math.max(1, Math.min(24, inside));
        }
        return windows;
    }

    private void begin() {
        tree = Check.tree(points);
        model = new Model();
        for (int i = 0; i < points.length; i += 2) {
            model.insert(points[i], points[i + 1]);
        }
        for (int i = 0; i < windows.length; i++) {
            int[] window = windows[i];
            tree.setWindow(i, window[0], window[1], window[2], window[3]);
            model.setWindow(i, window[0], window[1], window[2], window[3]);
        }
        calls = points.length / 2 + windows.length;
    }

    private void next() {
        if (calls > LAST_STEP) {
            begin();
        }
    }

    private Object both(String name, Check.Call onTree, Check.Call onModel, int... arguments) {
        calls++;
        Object got = Check.outcome(onTree);
        Object want = Check.outcome(onModel);
        Check.due(got.equals(want) ? name : shape + ": " + name + Arrays.toString(arguments), got, want);
        return got;
    }

    // ---- looks

    private static void looks(String shape, int[] points, int mostKey) {
        EveryArgumentTest test = new EveryArgumentTest(shape, points);
        test.looksAtOneKey();
        test.looksAtTwoKeys();
        test.looksAtRanges(mostKey);
        test.looksAtAll();
    }

    private void looksAtOneKey() {
        for (int number = -2; number <= 101; number++) {
            int n = number;
            next();
            both("contains", () -> tree.contains(n), () -> model.contains(n), n);
            both("priorityOf", () -> tree.priorityOf(n), () -> model.priorityOf(n), n);
            both("floorKey", () -> tree.floorKey(n), () -> model.floorKey(n), n);
            both("ceilingKey", () -> tree.ceilingKey(n), () -> model.ceilingKey(n), n);
            both("nearestKey", () -> tree.nearestKey(n), () -> model.nearestKey(n), n);
            both("rankOf", () -> tree.rankOf(n), () -> model.rankOf(n), n);
            both("keyAt", () -> tree.keyAt(n), () -> model.keyAt(n), n);
            both("keyByPriority", () -> tree.keyByPriority(n), () -> model.keyByPriority(n), n);
            both("hasLeft", () -> tree.hasLeft(n), () -> model.node(n).left != null, n);
            both("hasRight", () -> tree.hasRight(n), () -> model.node(n).right != null, n);
            both("leftOf", () -> tree.leftOf(n), () -> model.keyOf(model.node(n).left), n);
            both("rightOf", () -> tree.rightOf(n), () -> model.keyOf(model.node(n).right), n);
            both("parentOf", () -> tree.parentOf(n), () -> model.parentOf(n), n);
            both("depthOf", () -> tree.depthOf(n), () -> model.depthOf(n), n);
            both("subtreeSize", () -> tree.subtreeSize(n), () -> Model.count(model.node(n)), n);
            both("imbalanceOf", () -> tree.imbalanceOf(n),
                    () -> Model.count(model.node(n).left) - Model.count(model.node(n).right), n);
        }
    }

    private void looksAtTwoKeys() {
        for (int first = 0; first <= points.length; first += 2) {
            for (int second = 0; second <= points.length; second += 2) {
                // Behind the last point: a key that no point has.
                int a = first < points.length ? points[first] : 1;
                int b = second < points.length ? points[second] : 97;
                next();
                both("commonAncestor", () -> tree.commonAncestor(a, b), () -> model.commonAncestor(a, b), a, b);
                both("distance", () -> tree.distance(a, b), () -> model.distance(a, b), a, b);
            }
        }
    }

    private void looksAtRanges(int mostKey) {
        for (int i = -1; i <= mostKey; i++) {
            for (int j = i - 1; j <= mostKey; j++) {
                int low = i;
                int high = j;
                int p = PRIORITIES[(i + 11 * j + 102) % PRIORITIES.length];
                next();
                both("countInRange", () -> tree.countInRange(low, high), () -> count(low, high, 0), low, high);
                both("countInRangeByScan", () -> tree.countInRangeByScan(low, high), () -> count(low, high, 0), low, high);
                both("topInRange", () -> tree.topInRange(low, high), () -> model.top(low, high), low, high);
                both("topInRangeByScan", () -> tree.topInRangeByScan(low, high), () -> model.top(low, high), low, high);
                both("sumInRange", () -> tree.sumInRange(low, high), () -> model.sum(low, high), low, high);
                both("countAbove", () -> tree.countAbove(low, high, p), () -> count(low, high, p), low, high, p);
                both("countAbove", () -> tree.countAbove(low, high, 0), () -> count(low, high, 0), low, high, 0);
                both("countAboveByScan", () -> tree.countAboveByScan(low, high, p), () -> count(low, high, p), low, high, p);
            }
        }
    }

    private int count(int low, int high, int priority) {
        return model.inRange(low, high, priority).size();
    }

    private void looksAtAll() {
        begin();
        both("size", tree::size, model::size);
        both("lowestKey", tree::lowestKey, () -> model.keyAt(0));
        both("greatestKey", tree::greatestKey, () -> model.keyAt(model.size() - 1));
        both("root", tree::root, model::root);
        both("height", tree::height, model::height);
        both("leafCount", tree::leafCount, model::leafCount);
        both("rotationCount", tree::rotationCount, () -> model.now.rotations);
        both("meanDepth", tree::meanDepth, model::meanDepth);
        both("leafShare", tree::leafShare, model::leafShare);
        both("isConsistent", tree::isConsistent, () -> true);
        both("writeTree", () -> Check.written(tree), model::treeText);
        begin();
    }

    // ---- changes

    private static void changes() {
        int[][] rooms = {{0, 0, 0, 0}, {1, 0, 1, 0}, {0, 1, 0, 1}, {24, 24, 24, 24}};
        for (String shape : new String[] {"zigzag", "level", "scattered"}) {
            for (int i = 0; i < rooms.length; i++) {
                int[] points = points(shape, 21 + i, 4);
                EveryArgumentTest test = new EveryArgumentTest(shape + Arrays.toString(rooms[i]), points,
                        windowsFor(points, rooms[i]));
                test.insertsAll();
                test.changesAllPoints();
                test.deletesAllRanges();
                test.setsWindows();
            }
        }
    }

    /** The call, and what tells its answer's right from wrong; after a change it is undone. */
    private void change(String name, Check.Call onTree, Check.Call onModel, int... arguments) {
        next();
        Object got = both(name, onTree, onModel, arguments);
        if (got instanceof Class) {
            both("rejectionReason after " + name, tree::rejectionReason, model::rejectionReason, arguments);
            both("rejectionDetail after " + name, tree::rejectionDetail, model::rejectionDetail, arguments);
            return;
        }
        both("rotationCount after " + name, tree::rotationCount, () -> model.now.rotations, arguments);
        both("root after " + name, tree::root, model::root, arguments);
        both("meanDepth after " + name, tree::meanDepth, model::meanDepth, arguments);
        both("sumInRange after " + name, () -> tree.sumInRange(0, 99), () -> model.sum(0, 99), arguments);
        both("isConsistent after " + name, tree::isConsistent, () -> true, arguments);
        both("undo after " + name, tree::undo, model::undo, arguments);
    }

    private void insertsAll() {
        for (int i = -1; i <= 100; i++) {
            for (int priority : PRIORITIES) {
                int key = i;
                change("insert", () -> tree.insert(key, priority), () -> model.insert(key, priority), key, priority);
                both("canInsert", () -> tree.canInsert(key, priority), () -> model.canInsert(key, priority), key, priority);
            }
        }
    }

    private void changesAllPoints() {
        for (int i = 0; i <= points.length; i += 2) {
            int key = i < points.length ? points[i] : 101;
            change("delete", () -> tree.delete(key), () -> model.delete(key), key);
            for (int j = -1; j <= 100; j++) {
                int number = j;
                change("changePriority", () -> tree.changePriority(key, number), () -> model.changePriority(key, number),
                        key, number);
                change("moveKey", () -> tree.moveKey(key, number), () -> model.moveKey(key, number), key, number);
            }
        }
    }

    private void deletesAllRanges() {
        for (int i = -1; i <= 100; i++) {
            for (int j = i - 1; j <= 100; j += 3) {
                int low = i;
                int high = j;
                change("deleteRange", () -> tree.deleteRange(low, high), () -> model.deleteRange(low, high), low, high);
            }
        }
    }

    private void setsWindows() {
        for (int i = -1; i <= 4; i++) {
            int window = i;
            change("removeWindow", () -> tree.removeWindow(window), () -> model.removeWindow(window), window);
            for (int end = -1; end <= 100; end++) {
                for (int limit = 0; limit <= 25; limit += 5) {
                    setWindow(window, 20, end, 21, limit);
                    setWindow(window, end, 60, 2, limit);
                    setWindow(window, 0, 99, end, limit);
                }
            }
        }
    }

    private void setWindow(int window, int low, int high, int priority, int limit) {
        change("setWindow", () -> tree.setWindow(window, low, high, priority, limit),
                () -> model.setWindow(window, low, high, priority, limit), window, low, high, priority, limit);
    }

    // ---- inputs

    /** Each sign behind each beginning of an input that has all commands. */
    private static void signs() {
        int[] points = points("level", 9, 4);
        EveryArgumentTest test = new EveryArgumentTest("inputs", points, windowsFor(points, 9, 9, 9, 9));
        String whole = "i12:34;d3;p07:78;m7>10;r11-12;w3=4-56^7/8;x0;d15";
        for (int length = 0; length <= whole.length(); length++) {
            for (char sign = 32; sign <= 126; sign++) {
                test.input(whole.substring(0, length) + sign);
            }
        }
    }

    private void input(String text) {
        next();
        calls += text.length();
        both("execute of " + text, () -> Check.run(tree, text), () -> model.execute(text));
        both("syntaxErrorOffset of " + text, tree::syntaxErrorOffset, model::syntaxErrorOffset);
        both("rotationCount after " + text, tree::rotationCount, () -> model.now.rotations);
        both("sumInRange after " + text, () -> tree.sumInRange(0, 99), () -> model.sum(0, 99));
    }
}
