/** Promises 52 to 54. */
public final class CommandsTest {
    public static void main(String[] args) {
        appendInput();
        executeAll();
        executeOneChange();
        executeFaults();
        executeRejected();
        firstFailure();
        syntaxErrors();
        offsetStays();
        longestInput();
        Check.finish();
    }

    private static void appendInput() {
        Check.promise(52);
        PrioritySearchTree x = new PrioritySearchTree();
        Check.due(1, () -> x.appendInput(' '));
        Check.due(2, () -> x.appendInput('~'));
        for (char wrong : new char[] {0, 31, 127, 128, 255, 65535}) {
            Check.fails(Check.IAE, () -> x.appendInput(wrong));
        }
        for (int length = 3; length <= 60; length++) {
            Check.due(length, () -> x.appendInput('i'));
        }
        Check.fails(Check.ISE, () -> x.appendInput('i'));
        Check.fails(Check.IAE, () -> x.appendInput((char) 31));
        Check.fails(Check.IAE, x::execute);
        Check.due(1, () -> x.appendInput('i'));
    }

    private static void executeAll() {
        Check.promise(53);
        PrioritySearchTree x = new PrioritySearchTree();
        Check.due(5, () -> Check.run(x, "i12:90;i3:5;i40:7;p3:99;m12>60"));
        Check.due("(3:99((40:7)60:90))", () -> Check.written(x));
        Check.due(3, x::rotationCount);
        Check.due(1, () -> Check.run(x, "d40"));
        Check.due("(3:99(60:90))", () -> Check.written(x));
        Check.due(1, () -> Check.run(x, "w2=03-60^7/02"));
        Check.due("3,60", () -> Check.window(x, 2));
        Check.due(0, () -> x.roomInWindow(2));
        Check.due(2, () -> Check.run(x, "x2;i05:06"));
        Check.due(false, () -> x.isWindowSet(2));
        Check.due(6, () -> x.priorityOf(5));
        Check.due(2, () -> Check.run(x, "r4-60;r4-60"));
        Check.due("(3:99)", () -> Check.written(x));
        Check.fails(Check.NSEE, x::rejectionReason);
        Check.fails(Check.NSEE, x::syntaxErrorOffset);
        Check.due(1, () -> x.appendInput('d'));
    }

    private static void executeOneChange() {
        Check.promise(53);
        PrioritySearchTree x = Check.tree(1, 1);
        Check.run(x, "i2:2;i3:3;w0=0-9^0/5;x0;d1");
        Check.due("((2:2)3:3)", () -> Check.written(x));
        Check.due(1, x::undo);
        Check.due("(1:1)", () -> Check.written(x));
        Check.due(0, x::rotationCount);
    }

    private static void executeFaults() {
        Check.promise(53);
        PrioritySearchTree x = Check.tree(1, 1);
        x.insert(2, 2);
        String[] faults = {"d5", "p5:1", "m5>1", "m5>6", "r5-4", "w4=0-9^0/5", "w9=9-0^0/0", "w0=9-0^0/5", "w0=0-9^0/0",
            "w0=0-9^0/25", "w0=0-9^0/99", "x0", "x4", "x9", "i3:3;d1;d1", "w0=0-9^0/5;x0;x0", "r1-2;p2:1"};
        for (String fault : faults) {
            Check.due(Check.ISE, () -> Check.run(x, fault));
            Check.due("((1:1)2:2)", () -> Check.written(x));
            Check.due(1, () -> x.appendInput('i'));
            Check.fails(Check.IAE, x::execute);
        }
        Check.due(false, () -> x.isWindowSet(0));
        Check.due(1, x::rotationCount);
        Check.fails(Check.NSEE, x::rejectionReason);
        Check.due(1, x::undo);
        Check.due(0, x::undo);
    }

    private static void executeRejected() {
        Check.promise(53);
        PrioritySearchTree x = new PrioritySearchTree();
        Check.due(Check.UOE, () -> Check.run(x, "i1:1;i1:2"));
        rejected(x, 1, PrioritySearchTree.KEY_TAKEN);
        Check.due(0, x::size);
        Check.due(Check.UOE, () -> Check.run(x, "i1:1;w0=0-9^0/1;i2:2"));
        rejected(x, 2, PrioritySearchTree.WINDOW_FULL);
        Check.due(false, () -> x.isWindowSet(0));
        Check.due(Check.UOE, () -> Check.run(x, "i1:1;m1>1"));
        rejected(x, 1, PrioritySearchTree.KEY_TAKEN);
        Check.due(Check.UOE, () -> Check.run(x, "i1:1;i2:2;w3=0-9^0/1"));
        rejected(x, 2, PrioritySearchTree.WINDOW_FULL);
        Check.due(Check.UOE, () -> Check.run(x, "w1=0-9^5/1;i1:5;i2:2;i3:3;p2:5"));
        rejected(x, 4, PrioritySearchTree.WINDOW_FULL);
        Check.due(Check.UOE, () -> Check.run(x, "w1=0-9^5/1;i1:5;i10:5;m10>9"));
        rejected(x, 3, PrioritySearchTree.WINDOW_FULL);
        Check.fails(Check.ISE, x::undo);
        PrioritySearchTree full = Check.full(0);
        Check.due(Check.UOE, () -> Check.run(full, "i0:1"));
        rejected(full, 0, PrioritySearchTree.POINT_LIMIT);
        Check.due(2, () -> Check.run(full, "d0;i99:1"));
        Check.due(99, full::root);
    }

    private static void rejected(PrioritySearchTree x, int command, int cause) {
        Check.due(PrioritySearchTree.COMMAND_REJECTED, x::rejectionReason);
        Check.due(command, x::rejectionDetail);
        Check.due(cause, x::causeReason);
        Check.fails(Check.IAE, x::execute);
    }

    /** The first command that fails decides; a syntax error goes ahead of all. */
    private static void firstFailure() {
        Check.promise(53);
        PrioritySearchTree x = Check.tree(1, 1);
        Check.due(Check.UOE, () -> Check.run(x, "i1:1;d9"));
        Check.due(0, x::rejectionDetail);
        Check.fails(Check.UOE, () -> x.insert(1, 0));
        Check.due(Check.ISE, () -> Check.run(x, "d9;i1:1"));
        Check.due(PrioritySearchTree.KEY_TAKEN, x::rejectionReason);
        Check.due(Check.IAE, () -> Check.run(x, "d9;i1:1;"));
        Check.due(Check.IAE, () -> Check.run(x, "i1:1;q"));
        Check.due(PrioritySearchTree.KEY_TAKEN, x::rejectionReason);
        Check.due(1, x::rejectionDetail);
        Check.due("(1:1)", () -> Check.written(x));
    }

    private static void syntaxErrors() {
        Check.promise(54);
        PrioritySearchTree x = Check.tree(1, 1);
        Check.fails(Check.NSEE, x::syntaxErrorOffset);
        String[] texts = {"", "q", "I1:1", "1", ";", " d1", "i", "i:", "i1", "i1;", "i12", "i123", "i1:", "i1:;", "i1:2 ",
            "i1:234", "i1>2", "i1::", "d", "d;", "d1 ", "d123", "d1:", "d1;", "d1;;", "d1;q", "p1", "p1>2", "m", "m1",
            "m1>", "m1:2", "m1-2", "r1", "r1-", "r1>2", "r1-234", "w", "w=", "w12", "w0", "w0=", "w0=1", "w0=1-",
            "w0=1-2", "w0=1-2/", "w0=1-2^", "w0=1-2^3", "w0=1-2^3^", "w0=1-2^3/", "w0=1-2^3/456", "x", "xx", "x12",
            "x1:", "d1d2", "d-1"};
        int[] offsets = {0, 0, 0, 0, 0, 0, 1, 1, 2, 2, 3, 3, 3, 3, 4,
            5, 2, 3, 1, 1, 2, 3, 2, 3, 3, 3, 2, 2, 1, 2,
            3, 2, 2, 2, 3, 2, 5, 1, 1, 2, 2, 3, 4, 5,
            6, 6, 7, 8, 8, 9, 11, 1, 1, 2,
            2, 2, 1};
        Check.due(texts.length, () -> offsets.length);
        for (int i = 0; i < texts.length; i++) {
            Check.due("execute of " + texts[i], Check.run(x, texts[i]), Check.IAE);
            Check.due("offset of " + texts[i], x.syntaxErrorOffset(), offsets[i]);
        }
        Check.due("(1:1)", () -> Check.written(x));
        Check.fails(Check.NSEE, x::rejectionReason);
    }

    private static void offsetStays() {
        Check.promise(54);
        PrioritySearchTree x = new PrioritySearchTree();
        Check.run(x, "i1:");
        Check.due(1, () -> Check.run(x, "i1:1"));
        Check.due(Check.ISE, () -> Check.run(x, "d2"));
        Check.due(Check.UOE, () -> Check.run(x, "i1:1"));
        Check.due(3, x::syntaxErrorOffset);
        x.undo();
        Check.due(3, x::syntaxErrorOffset);
        Check.run(x, "dd");
        Check.due(1, x::syntaxErrorOffset);
    }

    /** No input holds more than twenty commands. Not all of them can succeed, but all of them are read first. */
    private static void longestInput() {
        Check.promise(53);
        PrioritySearchTree x = Check.full(1);
        for (int window = 0; window < 4; window++) {
            x.setWindow(window, 50, 60, 0, 1);
        }
        String fourteen = "d0;d1;d2;d3;d4;d5;d6;d7;d8;d9;x0;x1;x2;x3";
        Check.due(18, () -> Check.run(x, fourteen + ";i0:0;d0;i0:0;d0"));
        Check.due(14, x::size);
        x.undo();
        Check.due(Check.UOE, () -> Check.run(x, fourteen + ";i0:0;d0;i10:00"));
        Check.due(16, x::rejectionDetail);
        String twenty = "d1;d2" + ";x0".repeat(18);
        Check.due(Check.ISE, () -> Check.run(x, twenty));
        Check.due(24, x::size);
        Check.promise(54);
        Check.due(Check.IAE, () -> Check.run(x, twenty + ";"));
        Check.due(60, x::syntaxErrorOffset);
        Check.due(Check.IAE, () -> Check.run(x, twenty + ":"));
        Check.due(59, x::syntaxErrorOffset);
    }
}
