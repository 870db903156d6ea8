import java.util.function.Supplier;

/** The edges that several promises name in the same words, each looked at with the call of one promise. */
final class Edges {
    static final int MIN = Integer.MIN_VALUE;
    static final int MAX = Integer.MAX_VALUE;
    /** The first numbers beyond 0 to 99 at either side, and the last ones. */
    static final int[] BEYOND = {-1, 100, MIN, MAX};
    /** The first indices beyond 0 to 3 at either side, and the last ones. */
    static final int[] NO_WINDOWS = {-1, 4, MIN, MAX};

    interface OfKey {
        Object of(PrioritySearchTree x, int key);
    }

    interface OfRange {
        Object of(PrioritySearchTree x, int low, int high);
    }

    private Edges() {
    }

    /** ((0:10)50:90(99:20)): points at both ends of the keys and one between them. */
    static PrioritySearchTree ends() {
        return Check.tree(0, 10, 50, 90, 99, 20);
    }

    /** The same points, and windows with 3, 1, 0 and 2 of them. */
    static PrioritySearchTree windows() {
        PrioritySearchTree x = ends();
        x.setWindow(0, 0, 99, 0, 24);
        x.setWindow(1, 50, 50, 90, 1);
        x.setWindow(2, 1, 49, 0, 2);
        x.setWindow(3, 0, 98, 10, 3);
        return x;
    }

    // ---- points

    /** The lowest and the greatest key that a point can have. */
    static void keyOfPoint(int promise, String sentence, OfKey use, Object atZero, Object atNinetyNine) {
        Sentence.of(promise, sentence, () -> {
            Check.due(atZero, () -> use.of(ends(), 0));
            Check.due(atNinetyNine, () -> use.of(ends(), 99));
            for (int key : BEYOND) {
                Check.fails(Check.NSEE, () -> use.of(ends(), key));
            }
        });
    }

    static void noPoint(int promise, String sentence, OfKey use, Runnable more) {
        Sentence.of(promise, sentence, () -> {
            for (int key : new int[] {0, 50, 99, -1, 100, MIN, MAX}) {
                Check.fails(Check.NSEE, () -> use.of(new PrioritySearchTree(), key));
            }
            for (int key : new int[] {1, 49, 51, 98, -1, 100, MIN, MAX}) {
                Check.fails(Check.NSEE, () -> use.of(ends(), key));
            }
            for (int key : new int[] {24, 99, -1, 100}) {
                Check.fails(Check.NSEE, () -> use.of(Check.full(7), key));
            }
            // A point that was there, and that is not there any more.
            for (int key : new int[] {0, 50, 99}) {
                PrioritySearchTree x = ends();
                x.delete(key);
                Check.fails(Check.NSEE, () -> use.of(x, key));
                x.undo();
                x.undo();
                x.undo();
                Check.fails(Check.NSEE, () -> use.of(x, 99));
            }
            for (int key : new int[] {11, 100, MIN}) {
                Twins.refused(Check.NSEE, Twins::workedWithInput, x -> use.of(x, key));
            }
            Twins.refused(Check.NSEE, PrioritySearchTree::new, x -> use.of(x, 0));
            more.run();
        });
    }

    static void noPoint(int promise, OfKey use) {
        noPoint(promise, "Throws `NoSuchElementException` if there is no point with this key", use, () -> { });
    }

    static void noPoints(int promise, Class<?> kind, String sentence, Twins.Use use) {
        Sentence.of(promise, sentence, () -> {
            Check.fails(kind, () -> use.of(new PrioritySearchTree()));
            Twins.refused(kind, PrioritySearchTree::new, use);
            // None again: the last one deleted, all of them deleted, the first one undone, an empty snapshot restored.
            PrioritySearchTree x = Check.tree(5, 5);
            x.delete(5);
            Check.fails(kind, () -> use.of(x));
            x.insert(7, 7);
            x.insert(8, 8);
            Check.due(false, () -> use.of(x) instanceof Class);
            x.saveSnapshot();
            x.deleteRange(0, 99);
            Check.fails(kind, () -> use.of(x));
            x.saveSnapshot();
            x.undo();
            Check.due(false, () -> use.of(x) instanceof Class);
            x.undo();
            x.undo();
            Check.fails(kind, () -> use.of(x));
            x.restoreSnapshot();
            Twins.refused(kind, () -> {
                PrioritySearchTree none = Twins.workedWithInput();
                none.deleteRange(0, 99);
                return none;
            }, use);
        });
    }

    // ---- ranges of keys

    static void low(int promise, String sentence, OfRange use, Object fromZero, Object fromNinetyNine) {
        Sentence.of(promise, sentence, () -> {
            Check.due(fromZero, () -> use.of(ends(), 0, 99));
            Check.due(fromNinetyNine, () -> use.of(ends(), 99, 99));
            for (int low : BEYOND) {
                Check.fails(Check.IAE, () -> use.of(ends(), low, 99));
            }
            Check.fails(Check.IAE, () -> use.of(ends(), 100, 100));
        });
    }

    static void high(int promise, String sentence, OfRange use, Object toZero, Object toNinetyNine) {
        Sentence.of(promise, sentence, () -> {
            Check.due(toZero, () -> use.of(ends(), 0, 0));
            Check.due(toNinetyNine, () -> use.of(ends(), 0, 99));
            for (int high : BEYOND) {
                Check.fails(Check.IAE, () -> use.of(ends(), 0, high));
            }
            Check.fails(Check.IAE, () -> use.of(ends(), -1, -1));
        });
    }

    static void wrongRange(int promise, OfRange use) {
        wrongRange(promise, "Throws `IllegalArgumentException` if low or high is out of range, or low is greater than high", use,
                () -> { });
    }

    static void wrongRange(int promise, String sentence, OfRange use, Runnable more) {
        Sentence.of(promise, sentence, () -> {
            int[][] wrongs = {{-1, 99}, {0, 100}, {-1, 100}, {-1, -1}, {100, 100}, {1, 0}, {50, 49}, {51, 50}, {99, 98},
                {99, 0}, {99, 100}, {-1, 0}, {MIN, MAX}, {MAX, MIN}, {MIN, MIN}, {MAX, MAX}};
            for (int[] wrong : wrongs) {
                Check.fails(Check.IAE, () -> use.of(ends(), wrong[0], wrong[1]));
                Check.fails(Check.IAE, () -> use.of(new PrioritySearchTree(), wrong[0], wrong[1]));
            }
            // Low and high may be the same.
            for (int[] right : new int[][] {{0, 0}, {50, 50}, {99, 99}, {49, 50}, {50, 51}, {0, 99}}) {
                Check.due(false, () -> Check.outcome(() -> use.of(ends(), right[0], right[1])) instanceof Class);
            }
            for (int[] wrong : new int[][] {{-1, 99}, {0, 100}, {50, 49}}) {
                Twins.refused(Check.IAE, Twins::workedWithInput, x -> use.of(x, wrong[0], wrong[1]));
            }
            more.run();
        });
    }

    // ---- windows

    static void window(int promise, OfKey use, Object... dues) {
        Sentence.of(promise, "- `window`: the index of a window, 0 to 3", () -> {
            for (int i = 0; i < 4; i++) {
                int window = i;
                Check.due(dues[i], () -> use.of(windows(), window));
            }
            Check.fails(Check.IOOBE, () -> use.of(windows(), -1));
            Check.fails(Check.IOOBE, () -> use.of(windows(), 4));
        });
    }

    static void noWindow(int promise, OfKey use) {
        Sentence.of(promise, "Throws `IndexOutOfBoundsException` if there is no such window", () -> {
            for (int window : NO_WINDOWS) {
                Check.fails(Check.IOOBE, () -> use.of(windows(), window));
                Check.fails(Check.IOOBE, () -> use.of(new PrioritySearchTree(), window));
                Twins.refused(Check.IOOBE, Twins::workedWithInput, x -> use.of(x, window));
            }
        });
    }

    static void notSet(int promise, OfKey use) {
        notSet(promise, "Throws `NoSuchElementException` if this window is not set", use, () -> { });
    }

    static void notSet(int promise, String sentence, OfKey use, Runnable more) {
        Sentence.of(promise, sentence, () -> {
            for (int i = 0; i < 4; i++) {
                int window = i;
                Check.fails(Check.NSEE, () -> use.of(new PrioritySearchTree(), window));
                Twins.refused(Check.NSEE, notSetAnyMore(window), x -> use.of(x, window));
                // The other windows are still set: the middle ones have points or none.
                Check.due(true, () -> notSetAnyMore(window).get().isWindowSet((window + 1) % 4));
                PrioritySearchTree undone = ends();
                undone.setWindow(window, 0, 99, 0, 3);
                undone.undo();
                Check.fails(Check.NSEE, () -> use.of(undone, window));
            }
            Twins.refused(Check.NSEE, Twins::workedWithInput, x -> use.of(x, 0));
            Twins.refused(Check.NSEE, Twins::workedWithInput, x -> use.of(x, 3));
            more.run();
        });
    }

    private static Supplier<PrioritySearchTree> notSetAnyMore(int window) {
        return () -> {
            PrioritySearchTree x = windows();
            x.removeWindow(window);
            return x;
        };
    }
}
