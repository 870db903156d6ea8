import java.util.function.Supplier;

/**
 * Refused calls: one of two equal trees gets the call, and nothing may tell the two apart after it. All that can be
 * seen of a tree is looked at: data, output, rejection, syntax error, the changes that can be undone, the snapshot and
 * the input. The look uses a tree up, and stays far below the 512 calls that an object is used for.
 */
final class Twins {
    /** A call on a tree that is handed in. */
    interface Use {
        Object of(PrioritySearchTree x);
    }

    private Twins() {
    }

    /** The call throws this exception, and nothing at all is different after it. */
    static void refused(Class<?> kind, Supplier<PrioritySearchTree> maker, Use call) {
        PrioritySearchTree x = maker.get();
        PrioritySearchTree twin = maker.get();
        Check.fails(kind, () -> call.of(x));
        same(x, rejection(twin), offset(twin), twin);
    }

    /** The call is rejected, and nothing but the latest rejection is different after it. */
    static void rejected(int reason, int detail, Supplier<PrioritySearchTree> maker, Use call) {
        PrioritySearchTree x = maker.get();
        PrioritySearchTree twin = maker.get();
        Check.fails(Check.UOE, () -> call.of(x));
        same(x, reason + " " + detail + " none", offset(twin), twin);
    }

    /** The input is refused for its syntax: it is empty then, and the offset is the only other thing that differs. */
    static void wrongSyntax(int offset, Supplier<PrioritySearchTree> maker, String input) {
        PrioritySearchTree x = maker.get();
        PrioritySearchTree twin = maker.get();
        Check.due("execute of " + input, Check.run(x, input), Check.IAE);
        same(x, rejection(twin), String.valueOf(offset), twin);
    }

    /** A command has a wrong key, window or number: the input is empty then, and nothing else differs. */
    static void wrongCommand(Supplier<PrioritySearchTree> maker, String input) {
        PrioritySearchTree x = maker.get();
        PrioritySearchTree twin = maker.get();
        Check.due("execute of " + input, Check.run(x, input), Check.ISE);
        same(x, rejection(twin), offset(twin), twin);
    }

    /** A command is rejected: the input is empty then, and the latest rejection is the only other thing that differs. */
    static void rejectedCommand(int command, int cause, Supplier<PrioritySearchTree> maker, String input) {
        PrioritySearchTree x = maker.get();
        PrioritySearchTree twin = maker.get();
        Check.due("execute of " + input, Check.run(x, input), Check.UOE);
        same(x, PrioritySearchTree.COMMAND_REJECTED + " " + command + " " + cause, offset(twin), twin);
    }

    private static void same(PrioritySearchTree x, String rejection, String offset, PrioritySearchTree twin) {
        Check.due(rejection, () -> rejection(x));
        Check.due(offset, () -> offset(x));
        Check.due(rest(twin), () -> rest(x));
    }

    // ---- trees to make twins of

    /**
     * A tree that has something of all: (((10:10)20:80(30:20))50:90(70:85)), window 1 full with 10, 20 and 30, window 2
     * full with 70, the windows 0 and 3 not set, seven changes to undo, one undone, an earlier snapshot, a rejection, a
     * syntax error and an output.
     */
    static PrioritySearchTree worked() {
        PrioritySearchTree x = Check.tree(50, 90, 20, 80, 70, 85);
        x.saveSnapshot();
        x.insert(10, 10);
        x.setWindow(1, 0, 49, 5, 3);
        x.setWindow(2, 60, 99, 0, 1);
        x.insert(30, 20);
        x.insert(40, 4);
        x.undo();
        Check.outcome(() -> x.insert(20, 1));
        Check.run(x, "dq");
        x.writeWindow(1);
        return x;
    }

    static PrioritySearchTree workedWithInput() {
        PrioritySearchTree x = worked();
        Check.append(x, "i5:5;d");
        return x;
    }

    /** The keys 0 to 23 with the priority 7, and no changes to undo: looking at so many would take too many calls. */
    static PrioritySearchTree full() {
        PrioritySearchTree x = Check.full(7);
        x.saveSnapshot();
        x.restoreSnapshot();
        return x;
    }

    // ---- what can be seen

    static String rejection(PrioritySearchTree x) {
        return seen(x::rejectionReason) + " " + seen(x::rejectionDetail) + " " + seen(x::causeReason);
    }

    static String offset(PrioritySearchTree x) {
        return seen(x::syntaxErrorOffset);
    }

    /** All but the rejection and the syntax error. */
    static String rest(PrioritySearchTree x) {
        StringBuilder text = new StringBuilder("output ").append(output(x));
        text.append("; tree ").append(Check.written(x)).append("; ").append(data(x));
        for (int undone = 0; undone < 20; undone++) {
            String left = seen(x::undo);
            if (left.equals("none")) {
                break;
            }
            text.append("; undo ").append(left).append(' ').append(data(x));
        }
        text.append("; snapshot ").append(seen(x::restoreSnapshot)).append(' ').append(data(x));
        // A character that never fits shows where the input ahead of it stops being right.
        text.append("; input ").append(seen(() -> x.appendInput('q')));
        text.append(' ').append(seen(x::execute)).append(' ').append(offset(x));
        return text.toString();
    }

    /** The beginning of the output is enough to know it again. */
    private static String output(PrioritySearchTree x) {
        StringBuilder text = new StringBuilder();
        for (int index = 0; index < 30; index++) {
            int place = index;
            String character = seen(() -> x.outputAt(place));
            if (character.equals("none")) {
                break;
            }
            text.append(character);
        }
        return text.toString();
    }

    /** What undo and the snapshot cover, in few calls. */
    static String data(PrioritySearchTree x) {
        StringBuilder text = new StringBuilder();
        text.append(x.size()).append(' ').append(seen(x::root)).append(' ').append(x.height());
        text.append(' ').append(seen(x::meanDepth)).append(' ').append(x.sumInRange(0, 99));
        text.append(' ').append(seen(x::greatestKey)).append(' ').append(x.rotationCount());
        for (int i = 0; i < 4; i++) {
            int window = i;
            if (x.isWindowSet(window)) {
                text.append(" w").append(window).append(' ').append(x.pointsInWindow(window));
                text.append('/').append(x.roomInWindow(window));
                text.append('/').append(seen(() -> x.windowKeyAt(window, 0)));
            }
        }
        return text.toString();
    }

    private static String seen(Check.Call call) {
        Object answer = Check.outcome(call);
        return answer instanceof Class ? "none" : String.valueOf(answer);
    }
}
