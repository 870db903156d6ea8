import java.util.ArrayList;
import java.util.Comparator;
import java.util.List;
import java.util.Map;
import java.util.NoSuchElementException;
import java.util.TreeMap;
import java.util.regex.Matcher;
import java.util.regex.Pattern;

/**
 * The document once more, in another way: the points decide the shape of the tree (the topmost point of each range of
 * keys is the one that belongs above the others), and the depths and spines decide the numbers of rotations.
 */
final class Model {
    static final class Node {
        final int key;
        final int priority;
        final Node left;
        final Node right;

        Node(int key, int priority, Node left, Node right) {
            this.key = key;
            this.priority = priority;
            this.left = left;
            this.right = right;
        }
    }

    static final class State {
        final TreeMap<Integer, Integer> points = new TreeMap<>();
        final int[][] windows = new int[4][];
        int rotations;

        State copy() {
            State copy = new State();
            copy.points.putAll(points);
            System.arraycopy(windows, 0, copy.windows, 0, 4);
            copy.rotations = rotations;
            return copy;
        }
    }

    /** A call that is rejected, ahead of its being the latest rejection. */
    private static final class Rejected extends RuntimeException {
        private static final long serialVersionUID = 1;
        final int reason;
        final int detail;

        Rejected(int reason, int detail) {
            this.reason = reason;
            this.detail = detail;
        }
    }

    private static final Pattern COMMAND = Pattern.compile(
            "i(N):(N)|d(N)|p(N):(N)|m(N)>(N)|r(N)-(N)|w([0-9])=(N)-(N)\\^(N)/(N)|x([0-9])".replace("N", "[0-9]{1,2}"));
    private static final Pattern INPUT = Pattern.compile("(?:" + COMMAND + ")(?:;(?:" + COMMAND + "))*");

    State now = new State();
    private State snapshot;
    private final List<State> history = new ArrayList<>();
    private int[] rejection;
    private int offset = -1;

    // ---- the tree

    Node top() {
        return build(new ArrayList<>(now.points.entrySet()));
    }

    private static Node build(List<Map.Entry<Integer, Integer>> points) {
        int best = -1;
        for (int i = 0; i < points.size(); i++) {
            if (best < 0 || points.get(i).getValue() > points.get(best).getValue()) {
                best = i;
            }
        }
        return best < 0 ? null : new Node(points.get(best).getKey(), points.get(best).getValue(),
                build(points.subList(0, best)), build(points.subList(best + 1, points.size())));
    }

    static int count(Node node) {
        return node == null ? 0 : 1 + count(node.left) + count(node.right);
    }

    /** The points from the root to where a search for the key ends. */
    private List<Node> path(int key) {
        List<Node> path = new ArrayList<>();
        Node node = top();
        while (node != null) {
            path.add(node);
            node = key == node.key ? null : key < node.key ? node.left : node.right;
        }
        return path;
    }

    Node node(int key) {
        need(now.points.containsKey(key));
        List<Node> path = path(key);
        return path.get(path.size() - 1);
    }

    int keyOf(Node node) {
        need(node != null);
        return node.key;
    }

    int parentOf(int key) {
        need(depthOf(key) > 0);
        return path(key).get(depthOf(key) - 1).key;
    }

    int depthOf(int key) {
        node(key);
        return path(key).size() - 1;
    }

    int commonAncestor(int first, int second) {
        node(first);
        node(second);
        int common = -1;
        for (Node above : path(first)) {
            for (Node other : path(second)) {
                common = above.key == other.key ? above.key : common;
            }
        }
        return common;
    }

    int distance(int first, int second) {
        return depthOf(first) + depthOf(second) - 2 * depthOf(commonAncestor(first, second));
    }

    int height() {
        return now.points.keySet().stream().mapToInt(this::depthOf).max().orElse(-1);
    }

    int leafCount() {
        return (int) now.points.keySet().stream().filter(key -> count(node(key)) == 1).count();
    }

    double meanDepth() {
        needPoints();
        return (double) now.points.keySet().stream().mapToInt(this::depthOf).sum() / (double) size();
    }

    float leafShare() {
        needPoints();
        return (float) leafCount() / (float) size();
    }

    String treeText() {
        return text(top());
    }

    private static String text(Node node) {
        return node == null ? "" : "(" + text(node.left) + node.key + ":" + node.priority + text(node.right) + ")";
    }

    // ---- points

    int size() {
        return now.points.size();
    }

    boolean contains(int key) {
        return now.points.containsKey(key);
    }

    int priorityOf(int key) {
        return node(key).priority;
    }

    int lowestKey() {
        return now.points.firstKey();
    }

    int greatestKey() {
        return now.points.lastKey();
    }

    int floorKey(int number) {
        need(now.points.floorKey(number) != null);
        return now.points.floorKey(number);
    }

    int ceilingKey(int number) {
        need(now.points.ceilingKey(number) != null);
        return now.points.ceilingKey(number);
    }

    int nearestKey(int number) {
        needNumbers(number);
        return now.points.keySet().stream().min(Comparator.comparing((Integer key) -> Math.abs(key - number))
                .thenComparing(Comparator.naturalOrder())).orElseThrow();
    }

    int rankOf(int number) {
        return now.points.headMap(number).size();
    }

    int keyAt(int position) {
        need(position >= 0 && position < size());
        return new ArrayList<>(now.points.keySet()).get(position);
    }

    int keyByPriority(int position) {
        need(position >= 0 && position < size());
        List<Integer> keys = new ArrayList<>(now.points.keySet());
        keys.sort(Comparator.comparing((Integer key) -> -now.points.get(key)));
        return keys.get(position);
    }

    int root() {
        return keyOf(top());
    }

    // ---- ranges and windows

    List<Integer> inRange(int low, int high, int priority) {
        needNumbers(low, high, priority);
        needArgument(low <= high);
        return now.points.subMap(low, true, high, true).entrySet().stream()
                .filter(point -> point.getValue() >= priority).map(Map.Entry::getKey).toList();
    }

    int top(int low, int high) {
        List<Integer> keys = new ArrayList<>(inRange(low, high, 0));
        need(!keys.isEmpty());
        keys.sort(Comparator.comparing((Integer key) -> -now.points.get(key)));
        return keys.get(0);
    }

    long sum(int low, int high) {
        return inRange(low, high, 0).stream().mapToLong(now.points::get).sum();
    }

    boolean isWindowSet(int window) {
        needWindow(window);
        return now.windows[window] != null;
    }

    List<Integer> inWindow(int window) {
        need(isWindowSet(window));
        int[] set = now.windows[window];
        return inRange(set[0], set[1], set[2]);
    }

    int room(int window) {
        return -inWindow(window).size() + now.windows[window][3];
    }

    int windowKeyAt(int window, int position) {
        List<Integer> keys = inWindow(window);
        need(position >= 0 && position < keys.size());
        return keys.get(position);
    }

    String windowText(int window) {
        return inWindow(window).toString().replaceAll("[\\[\\] ]", "");
    }

    boolean canInsert(int key, int priority) {
        State before = now;
        now = now.copy();
        try {
            doInsert(key, priority);
            return true;
        } catch (Rejected rejected) {
            return false;
        } finally {
            now = before;
        }
    }

    // ---- changes

    int insert(int key, int priority) {
        return change(() -> doInsert(key, priority));
    }

    int delete(int key) {
        return change(() -> doDelete(key));
    }

    int changePriority(int key, int priority) {
        return change(() -> doChangePriority(key, priority));
    }

    int moveKey(int key, int newKey) {
        return change(() -> doMove(key, newKey));
    }

    int deleteRange(int low, int high) {
        return change(() -> doDeleteRange(low, high));
    }

    int setWindow(int window, int low, int high, int priority, int limit) {
        return change(() -> doSetWindow(window, low, high, priority, limit));
    }

    int removeWindow(int window) {
        return change(() -> doRemoveWindow(window));
    }

    /** The change is made on a copy, which is thrown away if an exception comes. */
    private int change(Check.Call call) {
        State before = now;
        now = now.copy();
        try {
            int answer = (Integer) call.answer();
            history.add(before);
            return answer;
        } catch (Rejected rejected) {
            now = before;
            rejection = new int[] {rejected.reason, rejected.detail, 0};
            throw new UnsupportedOperationException();
        } catch (RuntimeException e) {
            now = before;
            throw e;
        }
    }

    private int doInsert(int key, int priority) {
        needNumbers(key, priority);
        if (size() == 24) {
            throw new Rejected(1, 24);
        }
        return place(key, priority);
    }

    private int place(int key, int priority) {
        if (contains(key)) {
            throw new Rejected(2, now.points.get(key));
        }
        int leafDepth = path(key).size();
        now.points.put(key, priority);
        checkLimits();
        int rotations = leafDepth - depthOf(key);
        now.rotations += rotations;
        return rotations;
    }

    private int doDelete(int key) {
        Node node = node(key);
        int rotations = 0;
        for (Node left = node.left; left != null; left = left.right) {
            rotations++;
        }
        for (Node right = node.right; right != null; right = right.left) {
            rotations++;
        }
        now.points.remove(key);
        now.rotations += rotations;
        return rotations;
    }

    private int doChangePriority(int key, int priority) {
        int before = depthOf(key);
        needNumbers(priority);
        now.points.put(key, priority);
        checkLimits();
        int rotations = Math.abs(before - depthOf(key));
        now.rotations += rotations;
        return rotations;
    }

    private int doMove(int key, int newKey) {
        int priority = priorityOf(key);
        needNumbers(newKey);
        if (contains(newKey)) {
            throw new Rejected(2, now.points.get(newKey));
        }
        return doDelete(key) + place(newKey, priority);
    }

    private int doDeleteRange(int low, int high) {
        List<Integer> keys = inRange(low, high, 0);
        keys.forEach(now.points::remove);
        return keys.size();
    }

    private int doSetWindow(int window, int low, int high, int priority, int limit) {
        needWindow(window);
        needNumbers(low, high, priority);
        needArgument(low <= high && limit >= 1 && limit <= 24);
        now.windows[window] = new int[] {low, high, priority, limit};
        checkLimits();
        return inWindow(window).size();
    }

    private int doRemoveWindow(int window) {
        int points = inWindow(window).size();
        now.windows[window] = null;
        return points;
    }

    private void checkLimits() {
        for (int window = 0; window < 4; window++) {
            if (isWindowSet(window) && room(window) < 0) {
                throw new Rejected(3, window);
            }
        }
    }

    // ---- commands

    int execute(String input) {
        if (!INPUT.matcher(input).matches()) {
            offset = offsetOf(input);
            throw new IllegalArgumentException();
        }
        String[] commands = input.split(";");
        int[] cause = new int[1];
        try {
            return change(() -> {
                for (int i = 0; i < commands.length; i++) {
                    try {
                        command(commands[i]);
                    } catch (Rejected rejected) {
                        cause[0] = rejected.reason;
                        throw new Rejected(4, i);
                    } catch (RuntimeException e) {
                        throw new IllegalStateException();
                    }
                }
                return commands.length;
            });
        } catch (UnsupportedOperationException e) {
            rejection[2] = cause[0];
            throw e;
        }
    }

    private void command(String text) {
        String[] parts = text.substring(1).split("[:>=^/-]");
        int[] n = new int[5];
        for (int i = 0; i < parts.length; i++) {
            n[i] = Integer.parseInt(parts[i]);
        }
        switch (text.charAt(0)) {
            case 'i' -> doInsert(n[0], n[1]);
            case 'd' -> doDelete(n[0]);
            case 'p' -> doChangePriority(n[0], n[1]);
            case 'm' -> doMove(n[0], n[1]);
            case 'r' -> doDeleteRange(n[0], n[1]);
            case 'w' -> doSetWindow(n[0], n[1], n[2], n[3], n[4]);
            default -> doRemoveWindow(n[0]);
        }
    }

    /** The length of the longest beginning that some right input has too. */
    private static int offsetOf(String input) {
        for (int length = 1; length <= input.length(); length++) {
            Matcher matcher = INPUT.matcher(input.substring(0, length));
            if (!matcher.matches() && !matcher.hitEnd()) {
                return length - 1;
            }
        }
        return input.length();
    }

    int syntaxErrorOffset() {
        need(offset >= 0);
        return offset;
    }

    // ---- rejections and history

    int rejectionReason() {
        need(rejection != null);
        return rejection[0];
    }

    int rejectionDetail() {
        need(rejection != null);
        return rejection[1];
    }

    int causeReason() {
        need(rejection != null && rejection[0] == 4);
        return rejection[2];
    }

    private int undoable() {
        while (history.size() > 8) {
            history.remove(0);
        }
        return history.size();
    }

    int undo() {
        if (undoable() == 0) {
            throw new IllegalStateException();
        }
        now = history.remove(history.size() - 1);
        return history.size();
    }

    int saveSnapshot() {
        snapshot = now.copy();
        return size();
    }

    int restoreSnapshot() {
        if (snapshot == null) {
            throw new IllegalStateException();
        }
        now = snapshot.copy();
        history.clear();
        return size();
    }

    // ---- exceptions

    private static void need(boolean found) {
        if (!found) {
            throw new NoSuchElementException();
        }
    }

    private void needPoints() {
        if (size() == 0) {
            throw new ArithmeticException();
        }
    }

    private static void needArgument(boolean right) {
        if (!right) {
            throw new IllegalArgumentException();
        }
    }

    private static void needNumbers(int... numbers) {
        for (int number : numbers) {
            needArgument(number >= 0 && number <= 99);
        }
    }

    private static void needWindow(int window) {
        if (window < 0 || window > 3) {
            throw new IndexOutOfBoundsException();
        }
    }
}
