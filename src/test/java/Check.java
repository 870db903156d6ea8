import java.util.NoSuchElementException;

/** Counts what passes and what fails, and prints what fails. */
final class Check {
    /** A call whose answer or exception is looked at. */
    interface Call {
        Object answer();
    }

    static final Class<?> IAE = IllegalArgumentException.class;
    static final Class<?> ISE = IllegalStateException.class;
    static final Class<?> IOOBE = IndexOutOfBoundsException.class;
    static final Class<?> NSEE = NoSuchElementException.class;
    static final Class<?> UOE = UnsupportedOperationException.class;
    static final Class<?> AE = ArithmeticException.class;

    private static int passed;
    private static int failed;
    private static String place = "";

    private Check() {
    }

    static void promise(int number) {
        place = "promise " + number;
    }

    static void sentence(int promise, String text) {
        place = (promise == Sentence.TERMS ? "Terms" : "promise " + promise) + " \"" + text + "\"";
    }

    /** How many answers were looked at. */
    static int count() {
        return passed + failed;
    }

    static void due(String what, Object got, Object want) {
        if (want.equals(got)) {
            passed++;
            return;
        }
        failed++;
        System.out.println(place + ": " + what + " answered " + got + ", due is " + want);
    }

    static void due(Object want, Call call) {
        due("line " + line(), outcome(call), want);
    }

    /** An exception must be of exactly this class: the machine's own exceptions are mostly subclasses. */
    static void fails(Class<?> kind, Call call) {
        due("line " + line(), outcome(call), kind);
    }

    static Object outcome(Call call) {
        try {
            return call.answer();
        } catch (RuntimeException e) {
            return e.getClass();
        }
    }

    private static String line() {
        for (StackTraceElement element : new Throwable().getStackTrace()) {
            if (!element.getClassName().equals("Check")) {
                return element.getFileName() + ":" + element.getLineNumber();
            }
        }
        return "?";
    }

    static void finish() {
        System.out.println(passed + " passed, " + failed + " failed");
        if (failed > 0 || passed == 0) {
            System.exit(1);
        }
    }

    // ---- what many tests do

    /** A tree with points that are given as key, priority, key, priority and so on. */
    static PrioritySearchTree tree(int... numbers) {
        PrioritySearchTree tree = new PrioritySearchTree();
        for (int i = 0; i + 1 < numbers.length; i += 2) {
            tree.insert(numbers[i], numbers[i + 1]);
        }
        return tree;
    }

    /** A tree with the keys 0 to 23, all with one priority. */
    static PrioritySearchTree full(int priority) {
        PrioritySearchTree tree = new PrioritySearchTree();
        for (int key = 0; key < 24; key++) {
            tree.insert(key, priority);
        }
        return tree;
    }

    /** A tree with the keys 0 to 23, each the left child of the next one. */
    static PrioritySearchTree fullToTheLeft() {
        PrioritySearchTree tree = new PrioritySearchTree();
        for (int key = 0; key < 24; key++) {
            tree.insert(key, key);
        }
        return tree;
    }

    static String output(PrioritySearchTree tree, int length) {
        StringBuilder text = new StringBuilder();
        for (int i = 0; i < length; i++) {
            text.append(tree.outputAt(i));
        }
        return text.toString();
    }

    static String written(PrioritySearchTree tree) {
        return output(tree, tree.writeTree());
    }

    static String window(PrioritySearchTree tree, int window) {
        return output(tree, tree.writeWindow(window));
    }

    static int append(PrioritySearchTree tree, String text) {
        int length = 0;
        for (int i = 0; i < text.length(); i++) {
            length = tree.appendInput(text.charAt(i));
        }
        return length;
    }

    static Object run(PrioritySearchTree tree, String commands) {
        append(tree, commands);
        return outcome(tree::execute);
    }
}
