import java.util.NoSuchElementException;

/**
 * A binary search tree of points by keys that is a heap by priorities, with windows, commands,
 * undo and a snapshot. What each call promises stands in ../shared/DOC.md.
 */
public final class PrioritySearchTree {
    /** Reason: there are 24 points. The detail is 24. */
    public static final int POINT_LIMIT = 1;
    /** Reason: a point, which may be the moved point itself, has this key. The detail is its priority. */
    public static final int KEY_TAKEN = 2;
    /** Reason: a window would have more points than its limit. The detail is the lowest index of such a window. */
    public static final int WINDOW_FULL = 3;
    /** Reason: a command is rejected. The detail is the number of the command, from 0. */
    public static final int COMMAND_REJECTED = 4;

    private static final int NO_REASON = 0;
    private static final int MAX_POINTS = 24;
    private static final int MAX_NUMBER = 99;
    private static final int MAX_WINDOWS = 4;
    private static final int NO_WINDOW = -1;
    private static final int MAX_UNDO = 8;
    private static final int MAX_INPUT = 60;
    // The shortest command takes two characters, and the ";" between two commands takes one.
    private static final int MAX_COMMANDS = (MAX_INPUT + 1) / 3;
    private static final int MAX_NUMBERS = 5;
    // Input has codes from 32, so this code stands in no input.
    private static final int INPUT_END = 0;
    // A point is written with "(", ":", ")" and two numbers of two digits.
    private static final int MAX_OUTPUT = 7 * MAX_POINTS;
    private static final int NO_OFFSET = -1;
    // Slot 0 of a tree never has a point, so that a missing parent or child counts 0 points by itself.
    private static final int NONE = 0;

    private final Data now = new Data();
    // Commands are tried here first, because they are executed all or none.
    private final Data draft = new Data();
    private final Data snapshot = new Data();
    private boolean snapshotSaved;
    private final History history = new History();
    private final Commands commands = new Commands();
    private final Output output = new Output();
    private int latestOffset = NO_OFFSET;
    private int latestReason = NO_REASON;
    private int latestDetail;
    private int latestCause = NO_REASON;

    public PrioritySearchTree() {
    }

    // ---- changes of points

    public int insert(int key, int priority) throws IllegalArgumentException, UnsupportedOperationException {
        requireNumber(key);
        requireNumber(priority);
        int reason = now.reasonAgainstInsert(key, priority);
        if (reason != NO_REASON) {
            reject(reason, now.detailOf(reason, NONE, key, priority));
            throw new UnsupportedOperationException("the point is rejected");
        }
        history.push(now);
        return now.insertPoint(key, priority);
    }

    public int delete(int key) throws NoSuchElementException {
        int slot = requirePoint(key);
        history.push(now);
        return now.deletePoint(slot);
    }

    public int changePriority(int key, int priority)
            throws NoSuchElementException, IllegalArgumentException, UnsupportedOperationException {
        int slot = requirePoint(key);
        requireNumber(priority);
        int reason = now.reasonAgainstPriority(slot, priority);
        if (reason != NO_REASON) {
            reject(reason, now.detailOf(reason, slot, key, priority));
            throw new UnsupportedOperationException("the priority is rejected");
        }
        history.push(now);
        return now.setPriority(slot, priority);
    }

    public int moveKey(int key, int newKey)
            throws NoSuchElementException, IllegalArgumentException, UnsupportedOperationException {
        int slot = requirePoint(key);
        requireNumber(newKey);
        int reason = now.reasonAgainstMove(slot, newKey);
        if (reason != NO_REASON) {
            reject(reason, now.detailOf(reason, slot, newKey, now.tree.priorityIn(slot)));
            throw new UnsupportedOperationException("the key is rejected");
        }
        history.push(now);
        return now.movePoint(slot, newKey);
    }

    public int deleteRange(int low, int high) throws IllegalArgumentException {
        requireRange(low, high);
        history.push(now);
        return now.tree.removeRange(low, high);
    }

    // ---- points

    public int size() {
        return now.tree.pointCount();
    }

    public boolean contains(int key) {
        return now.tree.slotOf(key) != NONE;
    }

    public int priorityOf(int key) throws NoSuchElementException {
        return now.tree.priorityIn(requirePoint(key));
    }

    public int lowestKey() throws NoSuchElementException {
        return keyInFound(now.tree.slotAtPosition(0));
    }

    public int greatestKey() throws NoSuchElementException {
        return keyInFound(now.tree.slotAtPosition(now.tree.pointCount() - 1));
    }

    public int floorKey(int number) throws NoSuchElementException {
        return keyInFound(now.tree.floorSlot(number));
    }

    public int ceilingKey(int number) throws NoSuchElementException {
        return keyInFound(now.tree.ceilingSlot(number));
    }

    public int nearestKey(int number) throws IllegalArgumentException, NoSuchElementException {
        requireNumber(number);
        int floor = now.tree.floorSlot(number);
        int ceiling = now.tree.ceilingSlot(number);
        if (floor == NONE || ceiling == NONE) {
            return keyInFound(floor == NONE ? ceiling : floor);
        }
        int below = now.tree.keyIn(floor);
        int above = now.tree.keyIn(ceiling);
        return number - below <= above - number ? below : above;
    }

    public int rankOf(int number) {
        return now.tree.countBelow(number);
    }

    public int keyAt(int position) throws NoSuchElementException {
        return keyInFound(now.tree.slotAtPosition(position));
    }

    public int keyByPriority(int position) throws NoSuchElementException {
        return keyInFound(now.tree.slotByPriority(position));
    }

    // ---- the tree

    public int root() throws NoSuchElementException {
        return keyInFound(now.tree.topmost());
    }

    public boolean hasLeft(int key) throws NoSuchElementException {
        return now.tree.leftIn(requirePoint(key)) != NONE;
    }

    public boolean hasRight(int key) throws NoSuchElementException {
        return now.tree.rightIn(requirePoint(key)) != NONE;
    }

    public int leftOf(int key) throws NoSuchElementException {
        return keyInFound(now.tree.leftIn(requirePoint(key)));
    }

    public int rightOf(int key) throws NoSuchElementException {
        return keyInFound(now.tree.rightIn(requirePoint(key)));
    }

    public int parentOf(int key) throws NoSuchElementException {
        return keyInFound(now.tree.parentIn(requirePoint(key)));
    }

    public int depthOf(int key) throws NoSuchElementException {
        return now.tree.depthIn(requirePoint(key));
    }

    public int subtreeSize(int key) throws NoSuchElementException {
        return now.tree.countIn(requirePoint(key));
    }

    public int imbalanceOf(int key) throws NoSuchElementException {
        int slot = requirePoint(key);
        return now.tree.countIn(now.tree.leftIn(slot)) - now.tree.countIn(now.tree.rightIn(slot));
    }

    public int height() {
        return now.tree.greatestDepth();
    }

    public int leafCount() {
        return now.tree.countLeaves();
    }

    public int commonAncestor(int first, int second) throws NoSuchElementException {
        requirePoint(first);
        requirePoint(second);
        return now.tree.keyIn(now.tree.topSlot(Math.min(first, second), Math.max(first, second)));
    }

    public int distance(int first, int second) throws NoSuchElementException {
        int from = requirePoint(first);
        int to = requirePoint(second);
        int ancestor = now.tree.topSlot(Math.min(first, second), Math.max(first, second));
        return now.tree.depthIn(from) + now.tree.depthIn(to) - 2 * now.tree.depthIn(ancestor);
    }

    // ---- ranges

    public int countInRange(int low, int high) throws IllegalArgumentException {
        requireRange(low, high);
        return now.tree.countBetween(low, high);
    }

    public int countInRangeByScan(int low, int high) throws IllegalArgumentException {
        requireRange(low, high);
        return now.tree.scanAbove(low, high, 0);
    }

    public int topInRange(int low, int high) throws IllegalArgumentException, NoSuchElementException {
        requireRange(low, high);
        return keyInFound(now.tree.topSlot(low, high));
    }

    public int topInRangeByScan(int low, int high) throws IllegalArgumentException, NoSuchElementException {
        requireRange(low, high);
        return keyInFound(now.tree.scanTop(low, high));
    }

    public int countAbove(int low, int high, int priority) throws IllegalArgumentException {
        requireRange(low, high);
        requireNumber(priority);
        return now.tree.searchAbove(low, high, priority);
    }

    public int countAboveByScan(int low, int high, int priority) throws IllegalArgumentException {
        requireRange(low, high);
        requireNumber(priority);
        return now.tree.scanAbove(low, high, priority);
    }

    public long sumInRange(int low, int high) throws IllegalArgumentException {
        requireRange(low, high);
        return now.tree.sumBetween(low, high);
    }

    // ---- windows

    public int setWindow(int window, int low, int high, int priority, int limit)
            throws IndexOutOfBoundsException, IllegalArgumentException, UnsupportedOperationException {
        requireWindow(window);
        requireRange(low, high);
        requireNumber(priority);
        if (!isLimit(limit)) {
            throw new IllegalArgumentException("the limit is out of range");
        }
        int reason = now.reasonAgainstWindow(low, high, priority, limit);
        if (reason != NO_REASON) {
            reject(reason, window);
            throw new UnsupportedOperationException("the window is rejected");
        }
        history.push(now);
        now.windows.open(window, low, high, priority, limit);
        return now.countInWindow(window);
    }

    public int removeWindow(int window) throws IndexOutOfBoundsException, NoSuchElementException {
        requireOpenWindow(window);
        int points = now.countInWindow(window);
        history.push(now);
        now.windows.close(window);
        return points;
    }

    public boolean isWindowSet(int window) throws IndexOutOfBoundsException {
        requireWindow(window);
        return now.windows.isOpen(window);
    }

    public int pointsInWindow(int window) throws IndexOutOfBoundsException, NoSuchElementException {
        requireOpenWindow(window);
        return now.countInWindow(window);
    }

    public int roomInWindow(int window) throws IndexOutOfBoundsException, NoSuchElementException {
        requireOpenWindow(window);
        return now.windows.limitIn(window) - now.countInWindow(window);
    }

    public int windowKeyAt(int window, int position) throws IndexOutOfBoundsException, NoSuchElementException {
        requireOpenWindow(window);
        return keyInFound(now.slotInWindow(window, position));
    }

    public boolean canInsert(int key, int priority) throws IllegalArgumentException {
        requireNumber(key);
        requireNumber(priority);
        return now.reasonAgainstInsert(key, priority) == NO_REASON;
    }

    // ---- totals

    public int rotationCount() {
        return now.rotations;
    }

    public double meanDepth() throws ArithmeticException {
        int points = now.tree.pointCount();
        if (points == 0) {
            throw new ArithmeticException("there are no points");
        }
        return (double) now.tree.sumOfDepths() / (double) points;
    }

    public float leafShare() throws ArithmeticException {
        int points = now.tree.pointCount();
        if (points == 0) {
            throw new ArithmeticException("there are no points");
        }
        return (float) now.tree.countLeaves() / (float) points;
    }

    public boolean isConsistent() {
        return now.tree.isSound() && now.tree.bothWaysAgree() && now.keepsLimits();
    }

    // ---- text output

    public int writeTree() {
        output.clear();
        writeSubtree(now.tree, now.tree.topmost(), output, 0);
        return output.length;
    }

    public int writeWindow(int window) throws IndexOutOfBoundsException, NoSuchElementException {
        requireOpenWindow(window);
        output.clear();
        int points = now.countInWindow(window);
        for (int position = 0; position < points && position < MAX_POINTS; position++) {
            if (position > 0) {
                output.write(',');
            }
            output.writeNumber(now.tree.keyIn(now.slotInWindow(window, position)));
        }
        return output.length;
    }

    public char outputAt(int index) throws IndexOutOfBoundsException {
        if (index < 0 || index >= output.length) {
            throw new IndexOutOfBoundsException("there is no character at this index");
        }
        return (char) output.characterAt(index);
    }

    // ---- commands

    public int appendInput(char character) throws IllegalArgumentException, IllegalStateException {
        if (character < 32 || character > 126) {
            throw new IllegalArgumentException("the code is out of range");
        }
        if (commands.isFull()) {
            throw new IllegalStateException("the input is full");
        }
        return commands.append(character);
    }

    public int execute() throws IllegalArgumentException, IllegalStateException, UnsupportedOperationException {
        boolean parsed = commands.parse();
        commands.clearInput();
        if (!parsed) {
            latestOffset = commands.offset;
            throw new IllegalArgumentException("the input has a syntax error");
        }
        draft.copyFrom(now);
        for (int number = 0; number < commands.count && number < MAX_COMMANDS; number++) {
            if (isFaulty(number)) {
                throw new IllegalStateException("a command has a wrong key, window or number");
            }
            int reason = reasonAgainstCommand(number);
            if (reason != NO_REASON) {
                reject(COMMAND_REJECTED, number);
                latestCause = reason;
                throw new UnsupportedOperationException("a command is rejected");
            }
            carryOut(number);
        }
        history.push(now);
        now.copyFrom(draft);
        return commands.count;
    }

    public int syntaxErrorOffset() throws NoSuchElementException {
        if (latestOffset == NO_OFFSET) {
            throw new NoSuchElementException("there was no syntax error");
        }
        return latestOffset;
    }

    // ---- rejections and history

    public int rejectionReason() throws NoSuchElementException {
        requireRejection();
        return latestReason;
    }

    public int rejectionDetail() throws NoSuchElementException {
        requireRejection();
        return latestDetail;
    }

    public int causeReason() throws NoSuchElementException {
        if (latestReason != COMMAND_REJECTED) {
            throw new NoSuchElementException("no command caused the latest rejection");
        }
        return latestCause;
    }

    public int undo() throws IllegalStateException {
        if (history.count == 0) {
            throw new IllegalStateException("there is no change to undo");
        }
        history.popInto(now);
        return history.count;
    }

    public int saveSnapshot() {
        snapshot.copyFrom(now);
        snapshotSaved = true;
        return now.tree.pointCount();
    }

    public int restoreSnapshot() throws IllegalStateException {
        if (!snapshotSaved) {
            throw new IllegalStateException("there is no snapshot");
        }
        now.copyFrom(snapshot);
        history.clear();
        return now.tree.pointCount();
    }

    // ---- what several calls ask first

    private static boolean isNumber(int number) {
        return number >= 0 && number <= MAX_NUMBER;
    }

    private static boolean isWindow(int window) {
        return window >= 0 && window < MAX_WINDOWS;
    }

    private static boolean isLimit(int limit) {
        return limit >= 1 && limit <= MAX_POINTS;
    }

    private static void requireNumber(int number) {
        if (!isNumber(number)) {
            throw new IllegalArgumentException("a number is out of range");
        }
    }

    private static void requireRange(int low, int high) {
        if (!isNumber(low) || !isNumber(high) || low > high) {
            throw new IllegalArgumentException("this is no range of keys");
        }
    }

    private static void requireWindow(int window) {
        if (!isWindow(window)) {
            throw new IndexOutOfBoundsException("there is no such window");
        }
    }

    private void requireOpenWindow(int window) {
        requireWindow(window);
        if (!now.windows.isOpen(window)) {
            throw new NoSuchElementException("this window is not set");
        }
    }

    private int requirePoint(int key) {
        int slot = now.tree.slotOf(key);
        if (slot == NONE) {
            throw new NoSuchElementException("there is no point with this key");
        }
        return slot;
    }

    private int keyInFound(int slot) {
        if (slot == NONE) {
            throw new NoSuchElementException("there is no such point");
        }
        return now.tree.keyIn(slot);
    }

    private void requireRejection() {
        if (latestReason == NO_REASON) {
            throw new NoSuchElementException("no call was rejected");
        }
    }

    private void reject(int reason, int detail) {
        latestReason = reason;
        latestDetail = detail;
        latestCause = NO_REASON;
    }

    private static void writeSubtree(Tree tree, int slot, Output output, int depth) {
        if (tree == null || slot == NONE || output == null || depth >= MAX_POINTS) {
            return;
        }
        output.write('(');
        writeSubtree(tree, tree.leftIn(slot), output, depth + 1);
        output.writeNumber(tree.keyIn(slot));
        output.write(':');
        output.writeNumber(tree.priorityIn(slot));
        writeSubtree(tree, tree.rightIn(slot), output, depth + 1);
        output.write(')');
    }

    // ---- one command on the draft

    /** Whether the method of the command would throw another exception than UnsupportedOperationException. */
    private boolean isFaulty(int number) {
        int first = commands.numberAt(number, 0);
        int second = commands.numberAt(number, 1);
        switch (commands.kindAt(number)) {
            case 'd':
            case 'p':
            case 'm':
                return draft.tree.slotOf(first) == NONE;
            case 'r':
                return first > second;
            case 'w':
                return !isWindow(first) || second > commands.numberAt(number, 2)
                        || !isLimit(commands.numberAt(number, 4));
            case 'x':
                return !isWindow(first) || !draft.windows.isOpen(first);
            default:
                // Two digits cannot leave the range of keys and priorities.
                return false;
        }
    }

    private int reasonAgainstCommand(int number) {
        int first = commands.numberAt(number, 0);
        int second = commands.numberAt(number, 1);
        switch (commands.kindAt(number)) {
            case 'i':
                return draft.reasonAgainstInsert(first, second);
            case 'p':
                return draft.reasonAgainstPriority(draft.tree.slotOf(first), second);
            case 'm':
                return draft.reasonAgainstMove(draft.tree.slotOf(first), second);
            case 'w':
                return draft.reasonAgainstWindow(second, commands.numberAt(number, 2),
                        commands.numberAt(number, 3), commands.numberAt(number, 4));
            default:
                return NO_REASON;
        }
    }

    private void carryOut(int number) {
        int first = commands.numberAt(number, 0);
        int second = commands.numberAt(number, 1);
        switch (commands.kindAt(number)) {
            case 'i':
                draft.insertPoint(first, second);
                break;
            case 'd':
                draft.deletePoint(draft.tree.slotOf(first));
                break;
            case 'p':
                draft.setPriority(draft.tree.slotOf(first), second);
                break;
            case 'm':
                draft.movePoint(draft.tree.slotOf(first), second);
                break;
            case 'r':
                draft.tree.removeRange(first, second);
                break;
            case 'w':
                draft.windows.open(first, second, commands.numberAt(number, 2),
                        commands.numberAt(number, 3), commands.numberAt(number, 4));
                break;
            case 'x':
                draft.windows.close(first);
                break;
            default:
                break;
        }
    }

    // ---- rows: with these three, no index can make the machine throw

    private static int at(int[] row, int index) {
        return row != null && index >= 0 && index < row.length ? row[index] : 0;
    }

    private static void put(int[] row, int index, int value) {
        if (row != null && index >= 0 && index < row.length) {
            row[index] = value;
        }
    }

    private static void copyRow(int[] from, int[] to) {
        if (from == null || to == null) {
            return;
        }
        for (int index = 0; index < from.length && index < to.length; index++) {
            to[index] = from[index];
        }
    }

    /** The points in slots from 1; a point keeps its slot while it is rotated. */
    private static final class Tree {
        private final int[] keys = new int[MAX_POINTS + 1];
        private final int[] priorities = new int[MAX_POINTS + 1];
        private final int[] parents = new int[MAX_POINTS + 1];
        private final int[] lefts = new int[MAX_POINTS + 1];
        private final int[] rights = new int[MAX_POINTS + 1];
        // The numbers of points of the subtrees; 0 marks a slot without a point.
        private final int[] counts = new int[MAX_POINTS + 1];
        private int top = NONE;

        void copyFrom(Tree other) {
            if (other == null) {
                return;
            }
            copyRow(other.keys, keys);
            copyRow(other.priorities, priorities);
            copyRow(other.parents, parents);
            copyRow(other.lefts, lefts);
            copyRow(other.rights, rights);
            copyRow(other.counts, counts);
            top = other.top;
        }

        int topmost() {
            return top;
        }

        int pointCount() {
            return at(counts, top);
        }

        int keyIn(int slot) {
            return at(keys, slot);
        }

        int priorityIn(int slot) {
            return at(priorities, slot);
        }

        int parentIn(int slot) {
            return at(parents, slot);
        }

        int leftIn(int slot) {
            return at(lefts, slot);
        }

        int rightIn(int slot) {
            return at(rights, slot);
        }

        int countIn(int slot) {
            return at(counts, slot);
        }

        // -- rotations

        private boolean belongsAbove(int slot, int other) {
            int priority = at(priorities, slot);
            int otherPriority = at(priorities, other);
            return priority > otherPriority || priority == otherPriority && at(keys, slot) < at(keys, other);
        }

        private void recount(int slot) {
            put(counts, slot, 1 + at(counts, at(lefts, slot)) + at(counts, at(rights, slot)));
        }

        private void recountUpwards(int start) {
            int slot = start;
            for (int step = 0; step < MAX_POINTS && slot != NONE; step++) {
                recount(slot);
                slot = at(parents, slot);
            }
        }

        private void replaceChild(int parent, int child, int other) {
            if (parent == NONE) {
                top = other;
            } else if (at(lefts, parent) == child) {
                put(lefts, parent, other);
            } else {
                put(rights, parent, other);
            }
        }

        /** Exchanges a child with its parent. */
        private void rotate(int child) {
            int parent = at(parents, child);
            int grandparent = at(parents, parent);
            boolean fromLeft = at(lefts, parent) == child;
            int moved = at(fromLeft ? rights : lefts, child);
            put(fromLeft ? lefts : rights, parent, moved);
            put(fromLeft ? rights : lefts, child, parent);
            replaceChild(grandparent, parent, child);
            put(parents, child, grandparent);
            put(parents, parent, child);
            if (moved != NONE) {
                put(parents, moved, parent);
            }
            recount(parent);
            recount(child);
        }

        private int upperChild(int slot) {
            int left = at(lefts, slot);
            int right = at(rights, slot);
            if (left == NONE || right == NONE) {
                return left == NONE ? right : left;
            }
            return belongsAbove(left, right) ? left : right;
        }

        int rotateUp(int slot) {
            int rotations = 0;
            int parent = at(parents, slot);
            while (rotations < MAX_POINTS && parent != NONE && belongsAbove(slot, parent)) {
                rotate(slot);
                rotations++;
                parent = at(parents, slot);
            }
            return rotations;
        }

        int rotateDown(int slot, boolean toLeaf) {
            int rotations = 0;
            int child = upperChild(slot);
            while (rotations < MAX_POINTS && child != NONE && (toLeaf || belongsAbove(child, slot))) {
                rotate(child);
                rotations++;
                child = upperChild(slot);
            }
            return rotations;
        }

        // -- changes

        private int freeSlot() {
            for (int slot = 1; slot <= MAX_POINTS; slot++) {
                if (at(counts, slot) == 0) {
                    return slot;
                }
            }
            return NONE;
        }

        /** Adds a leaf where a search for the key ends, and answers its slot. */
        int attach(int key, int priority) {
            int leaf = freeSlot();
            if (leaf == NONE) {
                return NONE;
            }
            int parent = NONE;
            int slot = top;
            for (int step = 0; step < MAX_POINTS && slot != NONE; step++) {
                parent = slot;
                slot = at(key < at(keys, slot) ? lefts : rights, slot);
            }
            put(keys, leaf, key);
            put(priorities, leaf, priority);
            put(lefts, leaf, NONE);
            put(rights, leaf, NONE);
            put(parents, leaf, parent);
            if (parent == NONE) {
                top = leaf;
            } else {
                put(key < at(keys, parent) ? lefts : rights, parent, leaf);
            }
            recountUpwards(leaf);
            return leaf;
        }

        void detach(int leaf) {
            int parent = at(parents, leaf);
            replaceChild(parent, leaf, NONE);
            put(counts, leaf, 0);
            recountUpwards(parent);
        }

        void putPriority(int slot, int priority) {
            put(priorities, slot, priority);
        }

        int removeRange(int low, int high) {
            int removed = 0;
            for (int slot = 1; slot <= MAX_POINTS; slot++) {
                if (isInRange(slot, low, high)) {
                    rotateDown(slot, true);
                    detach(slot);
                    removed++;
                }
            }
            return removed;
        }

        // -- searches from the root

        int slotOf(int key) {
            int slot = top;
            for (int step = 0; step < MAX_POINTS && slot != NONE; step++) {
                int here = at(keys, slot);
                if (here == key) {
                    return slot;
                }
                slot = at(key < here ? lefts : rights, slot);
            }
            return NONE;
        }

        int floorSlot(int number) {
            int floor = NONE;
            int slot = top;
            for (int step = 0; step < MAX_POINTS && slot != NONE; step++) {
                if (at(keys, slot) <= number) {
                    floor = slot;
                    slot = at(rights, slot);
                } else {
                    slot = at(lefts, slot);
                }
            }
            return floor;
        }

        int ceilingSlot(int number) {
            int ceiling = NONE;
            int slot = top;
            for (int step = 0; step < MAX_POINTS && slot != NONE; step++) {
                if (at(keys, slot) >= number) {
                    ceiling = slot;
                    slot = at(lefts, slot);
                } else {
                    slot = at(rights, slot);
                }
            }
            return ceiling;
        }

        int countBelow(int number) {
            int count = 0;
            int slot = top;
            for (int step = 0; step < MAX_POINTS && slot != NONE; step++) {
                if (at(keys, slot) < number) {
                    count += 1 + at(counts, at(lefts, slot));
                    slot = at(rights, slot);
                } else {
                    slot = at(lefts, slot);
                }
            }
            return count;
        }

        int countBetween(int low, int high) {
            return countBelow(high + 1) - countBelow(low);
        }

        int slotAtPosition(int position) {
            if (position < 0) {
                return NONE;
            }
            int rest = position;
            int slot = top;
            for (int step = 0; step < MAX_POINTS && slot != NONE; step++) {
                int before = at(counts, at(lefts, slot));
                if (rest == before) {
                    return slot;
                }
                if (rest < before) {
                    slot = at(lefts, slot);
                } else {
                    rest -= before + 1;
                    slot = at(rights, slot);
                }
            }
            return NONE;
        }

        /** Of all points in the range, the first one below the root belongs above the others. */
        int topSlot(int low, int high) {
            int slot = top;
            for (int step = 0; step < MAX_POINTS && slot != NONE; step++) {
                int key = at(keys, slot);
                if (key >= low && key <= high) {
                    return slot;
                }
                slot = at(key < low ? rights : lefts, slot);
            }
            return NONE;
        }

        int searchAbove(int low, int high, int priority) {
            return searchAboveFrom(this, top, low, high, priority, 0);
        }

        private static int searchAboveFrom(Tree tree, int slot, int low, int high, int priority, int depth) {
            if (tree == null || slot == NONE || depth >= MAX_POINTS || tree.priorityIn(slot) < priority) {
                return 0;
            }
            int key = tree.keyIn(slot);
            int count = key >= low && key <= high ? 1 : 0;
            if (key > low) {
                count += searchAboveFrom(tree, tree.leftIn(slot), low, high, priority, depth + 1);
            }
            if (key < high) {
                count += searchAboveFrom(tree, tree.rightIn(slot), low, high, priority, depth + 1);
            }
            return count;
        }

        // -- looks at all points

        private boolean isInRange(int slot, int low, int high) {
            int key = at(keys, slot);
            return at(counts, slot) > 0 && key >= low && key <= high;
        }

        int scanAbove(int low, int high, int priority) {
            int count = 0;
            for (int slot = 1; slot <= MAX_POINTS; slot++) {
                int key = at(keys, slot);
                boolean inRange = at(counts, slot) > 0 && key >= low && key <= high;
                if (inRange && at(priorities, slot) >= priority) {
                    count++;
                }
            }
            return count;
        }

        int scanTop(int low, int high) {
            int best = NONE;
            for (int slot = 1; slot <= MAX_POINTS; slot++) {
                if (isInRange(slot, low, high) && (best == NONE || belongsAbove(slot, best))) {
                    best = slot;
                }
            }
            return best;
        }

        long sumBetween(int low, int high) {
            long sum = 0;
            for (int slot = 1; slot <= MAX_POINTS; slot++) {
                if (isInRange(slot, low, high)) {
                    sum += at(priorities, slot);
                }
            }
            return sum;
        }

        private int countAhead(int slot) {
            int count = 0;
            for (int other = 1; other <= MAX_POINTS; other++) {
                if (at(counts, other) > 0 && belongsAbove(other, slot)) {
                    count++;
                }
            }
            return count;
        }

        int slotByPriority(int position) {
            for (int slot = 1; slot <= MAX_POINTS; slot++) {
                if (at(counts, slot) > 0 && countAhead(slot) == position) {
                    return slot;
                }
            }
            return NONE;
        }

        int depthIn(int slot) {
            int depth = 0;
            int above = at(parents, slot);
            while (depth < MAX_POINTS && above != NONE) {
                depth++;
                above = at(parents, above);
            }
            return depth;
        }

        int greatestDepth() {
            int greatest = -1;
            for (int slot = 1; slot <= MAX_POINTS; slot++) {
                if (at(counts, slot) > 0) {
                    greatest = Math.max(greatest, depthIn(slot));
                }
            }
            return greatest;
        }

        int sumOfDepths() {
            int sum = 0;
            for (int slot = 1; slot <= MAX_POINTS; slot++) {
                if (at(counts, slot) > 0) {
                    sum += depthIn(slot);
                }
            }
            return sum;
        }

        int countLeaves() {
            int leaves = 0;
            for (int slot = 1; slot <= MAX_POINTS; slot++) {
                if (at(counts, slot) == 1) {
                    leaves++;
                }
            }
            return leaves;
        }

        // -- checks

        boolean isSound() {
            return isSoundFrom(this, top, -1, MAX_NUMBER + 1, 0);
        }

        private static boolean isSoundFrom(Tree tree, int slot, int below, int above, int depth) {
            if (tree == null || slot == NONE) {
                return true;
            }
            int key = tree.keyIn(slot);
            int left = tree.leftIn(slot);
            int right = tree.rightIn(slot);
            if (depth >= MAX_POINTS || key <= below || key >= above) {
                return false;
            }
            if (left != NONE && tree.belongsAbove(left, slot) || right != NONE && tree.belongsAbove(right, slot)) {
                return false;
            }
            if (tree.countIn(slot) != 1 + tree.countIn(left) + tree.countIn(right)) {
                return false;
            }
            return isSoundFrom(tree, left, below, key, depth + 1) && isSoundFrom(tree, right, key, above, depth + 1);
        }

        boolean bothWaysAgree() {
            for (int high = 0; high <= MAX_NUMBER; high++) {
                if (countBetween(0, high) != scanAbove(0, high, 0) || topSlot(0, high) != scanTop(0, high)) {
                    return false;
                }
            }
            return true;
        }
    }

    private static final class Windows {
        private final int[] lows = new int[MAX_WINDOWS];
        private final int[] highs = new int[MAX_WINDOWS];
        private final int[] priorities = new int[MAX_WINDOWS];
        // No window has the limit 0, so it marks the windows that are not set.
        private final int[] limits = new int[MAX_WINDOWS];

        void copyFrom(Windows other) {
            if (other == null) {
                return;
            }
            copyRow(other.lows, lows);
            copyRow(other.highs, highs);
            copyRow(other.priorities, priorities);
            copyRow(other.limits, limits);
        }

        void open(int window, int low, int high, int priority, int limit) {
            put(lows, window, low);
            put(highs, window, high);
            put(priorities, window, priority);
            put(limits, window, limit);
        }

        void close(int window) {
            put(limits, window, 0);
        }

        boolean isOpen(int window) {
            return at(limits, window) > 0;
        }

        int limitIn(int window) {
            return at(limits, window);
        }

        boolean covers(int window, int key, int priority) {
            return key >= at(lows, window) && key <= at(highs, window) && priority >= at(priorities, window);
        }
    }

    /** All that undo and the snapshot cover. */
    private static final class Data {
        private final Tree tree = new Tree();
        private final Windows windows = new Windows();
        private int rotations;

        void copyFrom(Data other) {
            if (other == null) {
                return;
            }
            tree.copyFrom(other.tree);
            windows.copyFrom(other.windows);
            rotations = other.rotations;
        }

        // -- windows and their points

        int countInWindow(int window) {
            return tree.scanAbove(at(windows.lows, window), at(windows.highs, window),
                    at(windows.priorities, window));
        }

        /** The point at a position of a window, in ascending order of keys. */
        int slotInWindow(int window, int position) {
            int passed = 0;
            int points = tree.pointCount();
            for (int place = 0; place < points && place < MAX_POINTS; place++) {
                int slot = tree.slotAtPosition(place);
                if (windows.covers(window, tree.keyIn(slot), tree.priorityIn(slot))) {
                    if (passed == position) {
                        return slot;
                    }
                    passed++;
                }
            }
            return NONE;
        }

        /** The first window that would have too many points if this point took the place of the one in the slot. */
        private int firstFullWindow(int replaced, int key, int priority) {
            for (int window = 0; window < MAX_WINDOWS; window++) {
                int points = countInWindow(window);
                if (replaced != NONE && windows.covers(window, tree.keyIn(replaced), tree.priorityIn(replaced))) {
                    points--;
                }
                if (windows.covers(window, key, priority)) {
                    points++;
                }
                if (windows.isOpen(window) && points > windows.limitIn(window)) {
                    return window;
                }
            }
            return NO_WINDOW;
        }

        boolean keepsLimits() {
            for (int window = 0; window < MAX_WINDOWS; window++) {
                if (windows.isOpen(window) && countInWindow(window) > windows.limitIn(window)) {
                    return false;
                }
            }
            return true;
        }

        // -- reasons for rejections

        int reasonAgainstInsert(int key, int priority) {
            if (tree.pointCount() >= MAX_POINTS) {
                return POINT_LIMIT;
            }
            if (tree.slotOf(key) != NONE) {
                return KEY_TAKEN;
            }
            return firstFullWindow(NONE, key, priority) == NO_WINDOW ? NO_REASON : WINDOW_FULL;
        }

        int reasonAgainstPriority(int slot, int priority) {
            return firstFullWindow(slot, tree.keyIn(slot), priority) == NO_WINDOW ? NO_REASON : WINDOW_FULL;
        }

        int reasonAgainstMove(int slot, int newKey) {
            if (tree.slotOf(newKey) != NONE) {
                return KEY_TAKEN;
            }
            return firstFullWindow(slot, newKey, tree.priorityIn(slot)) == NO_WINDOW ? NO_REASON : WINDOW_FULL;
        }

        int reasonAgainstWindow(int low, int high, int priority, int limit) {
            return tree.scanAbove(low, high, priority) > limit ? WINDOW_FULL : NO_REASON;
        }

        int detailOf(int reason, int replaced, int key, int priority) {
            if (reason == POINT_LIMIT) {
                return MAX_POINTS;
            }
            if (reason == KEY_TAKEN) {
                return tree.priorityIn(tree.slotOf(key));
            }
            return firstFullWindow(replaced, key, priority);
        }

        // -- changes that are not rejected

        int insertPoint(int key, int priority) {
            int made = tree.rotateUp(tree.attach(key, priority));
            rotations += made;
            return made;
        }

        int deletePoint(int slot) {
            int made = tree.rotateDown(slot, true);
            tree.detach(slot);
            rotations += made;
            return made;
        }

        int setPriority(int slot, int priority) {
            tree.putPriority(slot, priority);
            int made = tree.rotateUp(slot) + tree.rotateDown(slot, false);
            rotations += made;
            return made;
        }

        int movePoint(int slot, int newKey) {
            int priority = tree.priorityIn(slot);
            int made = tree.rotateDown(slot, true);
            tree.detach(slot);
            made += tree.rotateUp(tree.attach(newKey, priority));
            rotations += made;
            return made;
        }
    }

    /** The data ahead of each change that can be undone; the oldest one gives way to a new one. */
    private static final class History {
        private final Data[] earlier = new Data[MAX_UNDO];
        private int next;
        private int count;

        History() {
            for (int index = 0; index < earlier.length; index++) {
                earlier[index] = new Data();
            }
        }

        private Data rowAt(int index) {
            return index >= 0 && index < earlier.length ? earlier[index] : null;
        }

        void push(Data data) {
            Data row = rowAt(next);
            if (row == null) {
                return;
            }
            row.copyFrom(data);
            next = next + 1 < MAX_UNDO ? next + 1 : 0;
            count = count < MAX_UNDO ? count + 1 : MAX_UNDO;
        }

        void popInto(Data data) {
            int latest = next > 0 ? next - 1 : MAX_UNDO - 1;
            if (count <= 0 || data == null) {
                return;
            }
            data.copyFrom(rowAt(latest));
            next = latest;
            count--;
        }

        void clear() {
            count = 0;
        }
    }

    /** The input, and the commands that were read from it. */
    private static final class Commands {
        private final int[] input = new int[MAX_INPUT];
        private int length;
        private int offset;
        private final int[] kinds = new int[MAX_COMMANDS];
        private final int[] numbers = new int[MAX_COMMANDS * MAX_NUMBERS];
        private int count;

        boolean isFull() {
            return length >= MAX_INPUT;
        }

        int append(char character) {
            put(input, length, character);
            length++;
            return length;
        }

        void clearInput() {
            length = 0;
        }

        int kindAt(int command) {
            return at(kinds, command);
        }

        int numberAt(int command, int place) {
            return at(numbers, command * MAX_NUMBERS + place);
        }

        /** Reads all commands. If this fails, the offset stands at the first wrong character or at the end. */
        boolean parse() {
            offset = 0;
            count = 0;
            boolean more = true;
            while (more && count < MAX_COMMANDS && readCommand(count)) {
                count++;
                more = take(';');
            }
            return !more && offset == length;
        }

        private int current() {
            return offset < length ? at(input, offset) : INPUT_END;
        }

        private boolean take(int wanted) {
            if (current() != wanted) {
                return false;
            }
            offset++;
            return true;
        }

        /** What follows the letter of a command: "#" is a number, "@" a digit, and all else is itself. */
        private static String patternOf(int kind) {
            switch (kind) {
                case 'i':
                case 'p':
                    return "#:#";
                case 'd':
                    return "#";
                case 'm':
                    return "#>#";
                case 'r':
                    return "#-#";
                case 'w':
                    return "@=#-#^#/#";
                case 'x':
                    return "@";
                default:
                    return "";
            }
        }

        private boolean readCommand(int command) {
            int kind = current();
            String pattern = patternOf(kind);
            if (pattern.isEmpty()) {
                return false;
            }
            put(kinds, command, kind);
            offset++;
            int place = command * MAX_NUMBERS;
            for (int index = 0; index < pattern.length(); index++) {
                char sign = pattern.charAt(index);
                if (sign == '#' || sign == '@') {
                    if (!readNumber(place, sign == '#' ? 2 : 1)) {
                        return false;
                    }
                    place++;
                } else if (!take(sign)) {
                    return false;
                }
            }
            return true;
        }

        private boolean readNumber(int place, int mostDigits) {
            int value = 0;
            int digits = 0;
            while (digits < mostDigits && current() >= '0' && current() <= '9') {
                value = 10 * value + current() - '0';
                offset++;
                digits++;
            }
            put(numbers, place, value);
            return digits > 0;
        }
    }

    private static final class Output {
        private final int[] characters = new int[MAX_OUTPUT];
        private int length;

        void clear() {
            length = 0;
        }

        int characterAt(int index) {
            return at(characters, index);
        }

        void write(int character) {
            if (length < MAX_OUTPUT) {
                put(characters, length, character);
                length++;
            }
        }

        void writeNumber(int number) {
            if (number >= 10) {
                write('0' + number / 10);
            }
            write('0' + number % 10);
        }
    }
}
