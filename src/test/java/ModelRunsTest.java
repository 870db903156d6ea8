import java.util.Random;

/**
 * Long runs of calls on the tree and on the model, which must answer the same. The seeds are fixed, so that each run
 * of this test makes the same calls.
 */
public final class ModelRunsTest {
    private static final int RUNS = 2500;
    // An object is used for 512 calls, and no step takes more than writeTree with a call for each of 168 characters.
    private static final int LAST_STEP = 512 - 169;
    private static final int[] STRANGE = {-1, 100, 24, 25, 4, Integer.MIN_VALUE, Integer.MAX_VALUE, -100};

    private final Random random;
    private final PrioritySearchTree tree = new PrioritySearchTree();
    private final Model model = new Model();
    // Few keys make many calls meet the points; many keys make full trees.
    private final int keys;
    private final int priorities;
    private String latest = "";
    private int calls;

    private ModelRunsTest(int seed) {
        random = new Random(seed);
        keys = seed % 3 == 0 ? 100 : seed % 3 == 1 ? 30 : 12;
        priorities = seed % 4 == 0 ? 3 : 100;
    }

    public static void main(String[] args) {
        for (int seed = 0; seed < RUNS; seed++) {
            ModelRunsTest run = new ModelRunsTest(seed);
            while (run.calls <= LAST_STEP) {
                run.step(seed);
            }
        }
        Check.finish();
    }

    private void step(int seed) {
        int kind = random.nextInt(100);
        Object[] answers = kind < 60 ? change() : kind < 95 ? look() : text();
        Check.due("run " + seed + " call " + calls + " " + latest, answers[0], answers[1]);
    }

    private Object[] both(String what, Check.Call onTree, Check.Call onModel) {
        latest = what;
        Object answer = Check.outcome(onTree);
        calls += answer instanceof String ? 1 + ((String) answer).length() : 1;
        return new Object[] {answer, Check.outcome(onModel)};
    }

    private int key() {
        return random.nextInt(60) == 0 ? STRANGE[random.nextInt(STRANGE.length)] : random.nextInt(keys);
    }

    private int priority() {
        return random.nextInt(60) == 0 ? STRANGE[random.nextInt(STRANGE.length)] : random.nextInt(priorities);
    }

    private int window() {
        return random.nextInt(40) == 0 ? STRANGE[random.nextInt(STRANGE.length)] : random.nextInt(4);
    }

    private int limit() {
        return random.nextInt(20) == 0 ? STRANGE[random.nextInt(STRANGE.length)] : 1 + random.nextInt(24);
    }

    private Object[] change() {
        int a = key();
        int b = key();
        int p = priority();
        int w = window();
        int limit = limit();
        int low = random.nextInt(15) == 0 ? b : Math.min(a, b);
        int high = random.nextInt(15) == 0 ? a : Math.max(a, b);
        switch (random.nextInt(30)) {
            case 0: case 1: case 2:
                return both("delete " + a, () -> tree.delete(a), () -> model.delete(a));
            case 3: case 4: case 5: case 6:
                return both("changePriority " + a + " " + p, () -> tree.changePriority(a, p),
                        () -> model.changePriority(a, p));
            case 7: case 8: case 9:
                return both("moveKey " + a + " " + b, () -> tree.moveKey(a, b), () -> model.moveKey(a, b));
            case 10:
                int end = random.nextInt(4) == 0 ? high : Math.min(high, low < 90 ? low + 9 : 99);
                return both("deleteRange " + low + " " + end, () -> tree.deleteRange(low, end),
                        () -> model.deleteRange(low, end));
            case 11:
                return both("setWindow " + w + " " + low + " " + high + " " + p + " " + limit,
                        () -> tree.setWindow(w, low, high, p, limit), () -> model.setWindow(w, low, high, p, limit));
            case 12:
                return both("removeWindow " + w, () -> tree.removeWindow(w), () -> model.removeWindow(w));
            case 13: case 14:
                return both("undo", tree::undo, model::undo);
            case 15:
                return random.nextInt(4) == 0 ? both("saveSnapshot", tree::saveSnapshot, model::saveSnapshot)
                        : random.nextInt(4) == 0 ? both("restoreSnapshot", tree::restoreSnapshot, model::restoreSnapshot)
                        : both("canInsert " + a + " " + p, () -> tree.canInsert(a, p), () -> model.canInsert(a, p));
            default:
                return both("insert " + a + " " + p, () -> tree.insert(a, p), () -> model.insert(a, p));
        }
    }

    private Object[] look() {
        int a = key();
        int b = random.nextInt(4) > 0 ? random.nextInt(30) - 2 : key();
        int low = random.nextInt(15) == 0 ? b : Math.min(a, b);
        int high = random.nextInt(15) == 0 ? a : Math.max(a, b);
        int p = priority();
        int w = window();
        switch (random.nextInt(50)) {
            case 0: return both("size", tree::size, model::size);
            case 1: return both("contains " + a, () -> tree.contains(a), () -> model.contains(a));
            case 2: return both("priorityOf " + a, () -> tree.priorityOf(a), () -> model.priorityOf(a));
            case 3: return both("lowestKey", tree::lowestKey, model::lowestKey);
            case 4: return both("greatestKey", tree::greatestKey, model::greatestKey);
            case 5: return both("floorKey " + a, () -> tree.floorKey(a), () -> model.floorKey(a));
            case 6: return both("ceilingKey " + a, () -> tree.ceilingKey(a), () -> model.ceilingKey(a));
            case 7: return both("nearestKey " + a, () -> tree.nearestKey(a), () -> model.nearestKey(a));
            case 8: return both("rankOf " + a, () -> tree.rankOf(a), () -> model.rankOf(a));
            case 9: return both("keyAt " + b, () -> tree.keyAt(b), () -> model.keyAt(b));
            case 10: return both("keyByPriority " + b, () -> tree.keyByPriority(b), () -> model.keyByPriority(b));
            case 11: return both("root", tree::root, model::root);
            case 12: return both("hasLeft " + a, () -> tree.hasLeft(a), () -> model.node(a).left != null);
            case 13: return both("hasRight " + a, () -> tree.hasRight(a), () -> model.node(a).right != null);
            case 14: return both("leftOf " + a, () -> tree.leftOf(a), () -> model.keyOf(model.node(a).left));
            case 15: return both("rightOf " + a, () -> tree.rightOf(a), () -> model.keyOf(model.node(a).right));
            case 16: return both("parentOf " + a, () -> tree.parentOf(a), () -> model.parentOf(a));
            case 17: return both("depthOf " + a, () -> tree.depthOf(a), () -> model.depthOf(a));
            case 18: return both("subtreeSize " + a, () -> tree.subtreeSize(a), () -> Model.count(model.node(a)));
            case 19: return both("imbalanceOf " + a, () -> tree.imbalanceOf(a),
                    () -> Model.count(model.node(a).left) - Model.count(model.node(a).right));
            case 20: return both("height", tree::height, model::height);
            case 21: return both("leafCount", tree::leafCount, model::leafCount);
            case 22: case 23: return both("commonAncestor " + a + " " + b, () -> tree.commonAncestor(a, b),
                    () -> model.commonAncestor(a, b));
            case 24: case 25: return both("distance " + a + " " + b, () -> tree.distance(a, b),
                    () -> model.distance(a, b));
            case 26: return both("countInRange " + low + " " + high, () -> tree.countInRange(low, high),
                    () -> model.inRange(low, high, 0).size());
            case 27: return both("countInRangeByScan " + low + " " + high, () -> tree.countInRangeByScan(low, high),
                    () -> model.inRange(low, high, 0).size());
            case 28: return both("topInRange " + low + " " + high, () -> tree.topInRange(low, high),
                    () -> model.top(low, high));
            case 29: return both("topInRangeByScan " + low + " " + high, () -> tree.topInRangeByScan(low, high),
                    () -> model.top(low, high));
            case 30: return both("countAbove " + low + " " + high + " " + p, () -> tree.countAbove(low, high, p),
                    () -> model.inRange(low, high, p).size());
            case 31: return both("countAboveByScan " + low + " " + high + " " + p,
                    () -> tree.countAboveByScan(low, high, p), () -> model.inRange(low, high, p).size());
            case 32: return both("sumInRange " + low + " " + high, () -> tree.sumInRange(low, high),
                    () -> model.sum(low, high));
            case 33: return both("isWindowSet " + w, () -> tree.isWindowSet(w), () -> model.isWindowSet(w));
            case 34: return both("pointsInWindow " + w, () -> tree.pointsInWindow(w), () -> model.inWindow(w).size());
            case 35: return both("roomInWindow " + w, () -> tree.roomInWindow(w), () -> model.room(w));
            case 36: case 37: return both("windowKeyAt " + w + " " + b, () -> tree.windowKeyAt(w, b),
                    () -> model.windowKeyAt(w, b));
            case 38: case 39: return both("rotationCount", tree::rotationCount, () -> model.now.rotations);
            case 40: return both("meanDepth", tree::meanDepth, model::meanDepth);
            case 41: return both("leafShare", tree::leafShare, model::leafShare);
            case 42: return both("isConsistent", tree::isConsistent, () -> true);
            case 43: case 44: return both("rejectionReason", tree::rejectionReason, model::rejectionReason);
            case 45: case 46: return both("rejectionDetail", tree::rejectionDetail, model::rejectionDetail);
            case 47: case 48: return both("causeReason", tree::causeReason, model::causeReason);
            default: return both("syntaxErrorOffset", tree::syntaxErrorOffset, model::syntaxErrorOffset);
        }
    }

    private Object[] text() {
        int w = window();
        switch (random.nextInt(4)) {
            case 0: return both("tree text", () -> Check.written(tree), model::treeText);
            case 1: return both("window text " + w, () -> Check.window(tree, w), () -> model.windowText(w));
            default:
                String commands = commands();
                if (commands.length() > 60) {
                    commands = commands.substring(0, 60);
                }
                String input = commands;
                calls += input.length();
                return both("execute " + input, () -> Check.run(tree, input), () -> model.execute(input));
        }
    }

    private String commands() {
        StringBuilder text = new StringBuilder();
        int count = 1 + random.nextInt(7);
        for (int i = 0; i < count; i++) {
            text.append(i == 0 ? "" : ";").append(command());
        }
        if (random.nextInt(6) == 0) {
            String signs = "idpmrwx0123456789:;>-=^/ ~";
            text.setCharAt(random.nextInt(text.length()), signs.charAt(random.nextInt(signs.length())));
        }
        if (random.nextInt(8) == 0) {
            text.setLength(random.nextInt(text.length() + 1));
        }
        return text.toString();
    }

    private String command() {
        int a = random.nextInt(keys);
        int b = random.nextInt(keys);
        int low = random.nextInt(10) == 0 ? b : Math.min(a, b);
        int high = Math.max(a, b);
        int w = random.nextInt(12) == 0 ? random.nextInt(10) : random.nextInt(4);
        switch (random.nextInt(12)) {
            case 0: return "d" + known(a);
            case 1: case 2: return "p" + known(a) + ":" + random.nextInt(priorities);
            case 3: case 4: return "m" + known(a) + ">" + b;
            case 5: return "r" + low + "-" + Math.min(high, low + 5);
            case 6: return "w" + w + "=" + low + "-" + high + "^" + random.nextInt(priorities) + "/"
                    + random.nextInt(26);
            case 7: return "x" + w;
            default: return "i" + (random.nextInt(3) == 0 && a < 10 ? "0" + a : a) + ":" + random.nextInt(priorities);
        }
    }

    private int known(int key) {
        Integer near = model.now.points.ceilingKey(key);
        return near == null || random.nextInt(10) == 0 ? key : near;
    }
}
