/** The edges that the promises 55 to 60 name. */
final class HistoryBoundaries {
    private static final String NO_REJECTION = "Throws `NoSuchElementException` if no call was rejected";

    private HistoryBoundaries() {
    }

    static void all() {
        reason();
        detail();
        cause();
        undo();
        save();
        restore();
    }

    private static void reason() {
        Sentence.of(55, "Returns the reason of the latest rejection.", () -> {
            PrioritySearchTree x = Twins.worked();
            Check.due(PrioritySearchTree.KEY_TAKEN, x::rejectionReason);
            Check.outcome(() -> x.insert(0, 99));
            Check.due(PrioritySearchTree.WINDOW_FULL, x::rejectionReason);
            // Twice the same, and what is refused otherwise, or not at all, in between.
            Check.outcome(() -> x.insert(0, 99));
            Check.outcome(() -> x.insert(0, 100));
            Check.outcome(() -> x.delete(11));
            x.insert(55, 5);
            x.undo();
            x.restoreSnapshot();
            Check.due(PrioritySearchTree.WINDOW_FULL, x::rejectionReason);
            Check.run(x, "i20:1");
            Check.due(PrioritySearchTree.COMMAND_REJECTED, x::rejectionReason);
            Check.outcome(() -> x.moveKey(50, 50));
            Check.due(PrioritySearchTree.KEY_TAKEN, x::rejectionReason);
        });
        Sentence.of(55, "Returns the reason, one of the constants.", () -> {
            PrioritySearchTree x = Check.full(7);
            Check.outcome(() -> x.insert(50, 7));
            Check.due(1, x::rejectionReason);
            Check.outcome(() -> x.moveKey(5, 5));
            Check.due(2, x::rejectionReason);
            Check.outcome(() -> x.setWindow(0, 0, 99, 0, 23));
            Check.due(3, x::rejectionReason);
            Check.run(x, "i50:7");
            Check.due(4, x::rejectionReason);
        });
        neverRejected(55, NO_REJECTION, PrioritySearchTree::rejectionReason);
    }

    private static void neverRejected(int promise, String sentence, Twins.Use use) {
        Sentence.of(promise, sentence, () -> {
            Twins.refused(Check.NSEE, PrioritySearchTree::new, use);
            PrioritySearchTree x = Check.tree(5, 5);
            x.setWindow(0, 0, 9, 0, 1);
            // Refused, but not rejected; not refused at all; and asked only.
            Check.outcome(() -> x.insert(100, 5));
            Check.outcome(() -> x.delete(6));
            Check.outcome(() -> x.changePriority(5, -1));
            Check.outcome(() -> x.moveKey(6, 5));
            Check.outcome(() -> x.deleteRange(5, 4));
            Check.outcome(() -> x.setWindow(4, 0, 9, 0, 1));
            Check.outcome(() -> x.setWindow(0, 0, 9, 0, 0));
            Check.outcome(() -> x.removeWindow(1));
            Check.outcome(x::restoreSnapshot);
            Check.due(false, () -> x.canInsert(5, 5));
            Check.due(false, () -> x.canInsert(6, 6));
            Check.due(Check.IAE, () -> Check.run(x, "i5:5;"));
            Check.due(Check.ISE, () -> Check.run(x, "d6;i5:5"));
            Check.fails(Check.NSEE, () -> use.of(x));
            Check.due(Check.UOE, () -> Check.run(x, "i5:5"));
            Check.due(false, () -> use.of(x) instanceof Class);
        });
    }

    private static void detail() {
        Sentence.of(56, "Returns the detail of the latest rejection.", () -> {
            PrioritySearchTree x = Twins.worked();
            Check.due(80, x::rejectionDetail);
            Check.outcome(() -> x.insert(0, 99));
            Check.due(1, x::rejectionDetail);
            Check.outcome(() -> x.moveKey(10, 60));
            Check.due(2, x::rejectionDetail);
            Check.outcome(() -> x.insert(50, 1));
            Check.due(90, x::rejectionDetail);
            // The priority that the point had then, and not the one that it has now.
            x.changePriority(50, 1);
            Check.due(90, x::rejectionDetail);
            x.delete(50);
            Check.due(90, x::rejectionDetail);
            Check.run(x, "r0-9;r0-9;i10:1");
            Check.due(2, x::rejectionDetail);
        });
        Sentence.of(56, "Returns the detail.", () -> {
            PrioritySearchTree x = Check.full(7);
            Check.outcome(() -> x.insert(50, 7));
            Check.due(24, x::rejectionDetail);
            x.changePriority(5, 0);
            Check.outcome(() -> x.moveKey(5, 5));
            Check.due(0, x::rejectionDetail);
            x.changePriority(5, 99);
            Check.outcome(() -> x.moveKey(5, 5));
            Check.due(99, x::rejectionDetail);
            Check.outcome(() -> x.setWindow(0, 0, 99, 0, 23));
            Check.due(0, x::rejectionDetail);
            Check.outcome(() -> x.setWindow(3, 0, 99, 0, 23));
            Check.due(3, x::rejectionDetail);
            Check.run(x, "i50:7");
            Check.due(0, x::rejectionDetail);
        });
        neverRejected(56, NO_REJECTION, PrioritySearchTree::rejectionDetail);
    }

    private static void cause() {
        Sentence.of(57, "Returns the reason of the command that caused the latest rejection.", () -> {
            PrioritySearchTree x = Twins.worked();
            Check.run(x, "i20:1");
            Check.due(PrioritySearchTree.KEY_TAKEN, x::causeReason);
            Check.run(x, "i0:99");
            Check.due(PrioritySearchTree.WINDOW_FULL, x::causeReason);
            Check.run(x, "i0:4;i20:1;i0:99");
            Check.due(PrioritySearchTree.KEY_TAKEN, x::causeReason);
            // What is no rejection leaves it as it is.
            Check.run(x, "d11");
            Check.run(x, "i0:99;");
            Check.run(x, "r0-9");
            x.undo();
            Check.due(PrioritySearchTree.KEY_TAKEN, x::causeReason);
        });
        Sentence.of(57, "Returns the reason, one of the constants.", () -> {
            PrioritySearchTree x = Check.full(7);
            String[] inputs = {"i50:7", "m5>5", "w0=0-99^0/23"};
            for (int i = 0; i < 3; i++) {
                int reason = i + 1;
                Check.due(Check.UOE, () -> Check.run(x, inputs[reason - 1]));
                Check.due(reason, x::causeReason);
            }
        });
        neverRejected(57, "Throws `NoSuchElementException` if no call was rejected, or the latest rejection has another reason than"
                + " COMMAND_REJECTED", x -> {
            int cause = x.causeReason();
            // Each call but execute is rejected for a reason of its own.
            Check.Call[] calls = {() -> x.insert(5, 9), () -> x.insert(6, 6), () -> x.moveKey(5, 5), () -> x.insert(5, 9)};
            for (Check.Call call : calls) {
                Check.fails(Check.UOE, call);
                Check.fails(Check.NSEE, x::causeReason);
            }
            Twins.refused(Check.NSEE, Twins::workedWithInput, PrioritySearchTree::causeReason);
            Check.due(Check.UOE, () -> Check.run(x, "i6:6"));
            Check.due(PrioritySearchTree.WINDOW_FULL, x::causeReason);
            return cause;
        });
    }

    private static void undo() {
        Sentence.of(58, "Undoes the latest change that has not been undone.", () -> {
            PrioritySearchTree x = Check.tree(1, 1);
            x.insert(2, 2);
            x.changePriority(1, 3);
            x.moveKey(2, 5);
            x.setWindow(0, 0, 99, 0, 2);
            x.delete(5);
            String[] dues = {"(1:3(5:2))", "(1:3(5:2))", "(1:3(2:2))", "((1:1)2:2)", "(1:1)", ""};
            for (String due : dues) {
                x.undo();
                Check.due(due, () -> Check.written(x));
            }
            // A new change after some were undone: it is undone first, and then the one ahead of those.
            PrioritySearchTree y = Check.tree(1, 1, 2, 2, 3, 3);
            y.undo();
            y.undo();
            y.insert(4, 4);
            y.undo();
            Check.due("(1:1)", () -> Check.written(y));
            y.undo();
            Check.due("", () -> Check.written(y));
        });
        Sentence.of(58, "Returns the number of changes that can still be undone.", () -> {
            Check.due(0, () -> Check.tree(1, 1).undo());
            Check.due(1, () -> Check.tree(1, 1, 2, 2).undo());
            for (int made = 7; made <= 20; made++) {
                PrioritySearchTree x = new PrioritySearchTree();
                for (int key = 0; key < made; key++) {
                    x.insert(key, 0);
                }
                // From the ninth change on, there are eight.
                Check.due(Math.min(made, 8) - 1, x::undo);
                Check.due(Math.min(made, 8) - 2, x::undo);
                x.insert(99, 0);
                x.insert(98, 0);
                x.insert(97, 0);
                Check.due(7, x::undo);
            }
        });
        Sentence.of(58, "Throws `IllegalStateException` if there is none", () -> {
            Twins.refused(Check.ISE, PrioritySearchTree::new, PrioritySearchTree::undo);
            Twins.refused(Check.ISE, HistoryBoundaries::allUndone, PrioritySearchTree::undo);
            Twins.refused(Check.ISE, Twins::full, PrioritySearchTree::undo);
            // The ninth change back cannot be undone, and a new one can.
            PrioritySearchTree x = allUndone();
            Check.fails(Check.ISE, x::undo);
            Check.fails(Check.ISE, x::undo);
            Check.due(1, x::size);
            x.insert(5, 5);
            Check.due(0, x::undo);
            Check.fails(Check.ISE, x::undo);
        });
    }

    /** Nine changes, of which eight are undone. */
    private static PrioritySearchTree allUndone() {
        PrioritySearchTree x = new PrioritySearchTree();
        for (int key = 0; key < 9; key++) {
            x.insert(key, key);
        }
        for (int i = 0; i < 8; i++) {
            x.undo();
        }
        return x;
    }

    private static void save() {
        Sentence.of(59, "Saves a snapshot of the data, in place of an earlier snapshot.", () -> {
            PrioritySearchTree x = new PrioritySearchTree();
            x.saveSnapshot();
            x.insert(1, 1);
            x.setWindow(3, 0, 9, 0, 2);
            x.insert(2, 2);
            x.saveSnapshot();
            String second = Twins.data(x);
            x.deleteRange(0, 99);
            x.removeWindow(3);
            x.restoreSnapshot();
            Check.due("((1:1)2:2)", () -> Check.written(x));
            Check.due(second, () -> Twins.data(x));
            // A third one without points, and a fourth one.
            x.deleteRange(0, 99);
            x.saveSnapshot();
            x.insert(5, 5);
            x.restoreSnapshot();
            Check.due(0, x::size);
            Check.due(true, () -> x.isWindowSet(3));
            x.insert(6, 6);
            x.saveSnapshot();
            x.delete(6);
            x.restoreSnapshot();
            Check.due("(6:6)", () -> Check.written(x));
            // To save changes nothing but the snapshot.
            PrioritySearchTree worked = Twins.workedWithInput();
            worked.saveSnapshot();
            Check.due(6, worked::undo);
            Check.due("2 80 none", () -> Twins.rejection(worked));
            Check.due("1", () -> Twins.offset(worked));
            Check.due(7, () -> worked.appendInput('5'));
        });
        Sentence.of(59, "Returns the number of points.", () -> {
            Check.due(0, () -> new PrioritySearchTree().saveSnapshot());
            Check.due(1, () -> Check.tree(5, 5).saveSnapshot());
            Check.due(24, () -> Check.full(7).saveSnapshot());
            PrioritySearchTree x = Check.full(7);
            x.saveSnapshot();
            x.deleteRange(0, 20);
            Check.due(3, x::saveSnapshot);
        });
    }

    private static void restore() {
        Sentence.of(60, "Restores the snapshot, which is kept.", () -> {
            PrioritySearchTree x = Edges.windows();
            x.saveSnapshot();
            String data = Twins.data(x);
            for (int i = 0; i < 3; i++) {
                x.deleteRange(0, 99);
                x.setWindow(1, 0, 0, 0, 9);
                x.removeWindow(0);
                x.insert(7 + i, 7);
                Check.due(3, x::restoreSnapshot);
                Check.due(data, () -> Twins.data(x));
                Check.due("((0:10)50:90(99:20))", () -> Check.written(x));
                Check.due(true, x::isConsistent);
            }
            // Twice in a row, and of 24 points.
            Check.due(3, x::restoreSnapshot);
            Check.due(data, () -> Twins.data(x));
            PrioritySearchTree full = Check.full(7);
            full.saveSnapshot();
            full.deleteRange(0, 99);
            Check.due(24, full::restoreSnapshot);
            Check.fails(Check.UOE, () -> full.insert(99, 0));
            Check.due(23, () -> full.depthOf(23));
        });
        Sentence.of(60, "No change can be undone after the call.", () -> {
            PrioritySearchTree x = new PrioritySearchTree();
            for (int key = 0; key < 12; key++) {
                x.insert(key, key);
            }
            x.saveSnapshot();
            x.delete(5);
            x.restoreSnapshot();
            Check.fails(Check.ISE, x::undo);
            Check.due(12, x::size);
            // Eight new changes can be undone again, and not more.
            for (int key = 0; key < 9; key++) {
                x.delete(key);
            }
            for (int left = 7; left >= 0; left--) {
                Check.due(left, x::undo);
            }
            Check.fails(Check.ISE, x::undo);
            Check.due(11, x::size);
            Check.due(1, x::lowestKey);
            // Also if nothing was different.
            x.restoreSnapshot();
            x.changePriority(5, 5);
            x.restoreSnapshot();
            Check.fails(Check.ISE, x::undo);
        });
        Sentence.of(60, "Returns the number of points.", () -> {
            for (int points : new int[] {0, 1, 24}) {
                PrioritySearchTree x = new PrioritySearchTree();
                for (int key = 0; key < points; key++) {
                    x.insert(key, 5);
                }
                Check.due(points, x::saveSnapshot);
                Check.outcome(() -> x.delete(0));
                Check.outcome(() -> x.insert(99, 5));
                Check.outcome(() -> x.insert(98, 5));
                Check.due(points, x::restoreSnapshot);
                Check.due(points, x::size);
            }
        });
        Sentence.of(60, "Throws `IllegalStateException` if there is no snapshot", () -> {
            Twins.refused(Check.ISE, PrioritySearchTree::new, PrioritySearchTree::restoreSnapshot);
            Twins.refused(Check.ISE, () -> {
                PrioritySearchTree x = Edges.windows();
                Check.append(x, "d5");
                return x;
            }, PrioritySearchTree::restoreSnapshot);
            PrioritySearchTree x = Check.tree(5, 5);
            Check.fails(Check.ISE, x::restoreSnapshot);
            // The changes can still be undone, and undo makes no snapshot.
            Check.due(0, x::undo);
            Check.fails(Check.ISE, x::restoreSnapshot);
            Check.due(0, x::saveSnapshot);
            Check.due(0, x::restoreSnapshot);
        });
    }
}
