/** The edges that the promises 52 to 54 name. */
final class CommandsBoundaries {
    private CommandsBoundaries() {
    }

    static void all() {
        append();
        appendRefused();
        execute();
        wrongSyntax();
        wrongCommand();
        rejectedCommand();
        offset();
    }

    private static void append() {
        Sentence.of(52, "Appends a character to the input.", () -> {
            // One after the other, and over calls of other methods.
            PrioritySearchTree x = new PrioritySearchTree();
            x.appendInput('i');
            x.insert(7, 7);
            x.appendInput('1');
            x.writeTree();
            x.appendInput(':');
            x.undo();
            x.appendInput('2');
            Check.due(1, x::execute);
            Check.due("(1:2)", () -> Check.written(x));
        });
        Sentence.of(52, "- `character`: the character, with a code from 32 to 126", () -> {
            PrioritySearchTree x = new PrioritySearchTree();
            Check.due(1, () -> x.appendInput((char) 32));
            Check.due(2, () -> x.appendInput((char) 126));
            Check.fails(Check.IAE, () -> x.appendInput((char) 31));
            Check.fails(Check.IAE, () -> x.appendInput((char) 127));
            Check.due(3, () -> x.appendInput((char) 33));
            Check.due(4, () -> x.appendInput((char) 125));
            // Each code that is allowed, as the first character of an input.
            for (char code = 32; code <= 126; code++) {
                char character = code;
                PrioritySearchTree each = new PrioritySearchTree();
                Check.due(1, () -> each.appendInput(character));
                Check.fails(Check.IAE, each::execute);
                Check.due("idpmrwx".indexOf(character) >= 0 ? 1 : 0, each::syntaxErrorOffset);
            }
        });
        Sentence.of(52, "Returns the length of the input after the call.", () -> {
            PrioritySearchTree x = new PrioritySearchTree();
            for (int round = 0; round < 2; round++) {
                for (int i = 1; i <= 60; i++) {
                    int length = i;
                    Check.due(length, () -> x.appendInput(';'));
                }
                Check.fails(Check.ISE, () -> x.appendInput(';'));
                Check.fails(Check.IAE, x::execute);
            }
            Check.due(1, () -> x.appendInput('d'));
            Check.outcome(() -> x.appendInput((char) 200));
            Check.due(2, () -> x.appendInput('9'));
            Check.fails(Check.ISE, x::execute);
            Check.due(1, () -> x.appendInput('r'));
            Check.append(x, "0-9");
            Check.due(1, x::execute);
            Check.due(1, () -> x.appendInput('r'));
        });
    }

    private static void appendRefused() {
        Sentence.of(52, "Throws `IllegalArgumentException` if the code is out of range", () -> {
            for (char wrong : new char[] {0, 9, 10, 31, 127, 128, 255, 256, 288, 65535}) {
                Twins.refused(Check.IAE, Twins::workedWithInput, x -> x.appendInput(wrong));
                // Ahead of the exception for an input that is full.
                Twins.refused(Check.IAE, CommandsBoundaries::fullInput, x -> x.appendInput(wrong));
            }
        });
        Sentence.of(52, "Throws `IllegalStateException` if the input has 60 characters", () -> {
            PrioritySearchTree x = new PrioritySearchTree();
            Check.append(x, "i12:34;".repeat(8) + "i1:");
            Check.due(60, () -> x.appendInput('2'));
            Twins.refused(Check.ISE, CommandsBoundaries::fullInput, y -> y.appendInput('5'));
            Twins.refused(Check.ISE, CommandsBoundaries::fullInput, y -> y.appendInput((char) 32));
            Twins.refused(Check.ISE, CommandsBoundaries::fullInput, y -> y.appendInput((char) 126));
            // The sixty characters stay, and are executed.
            PrioritySearchTree full = fullInput();
            Check.fails(Check.ISE, () -> full.appendInput('5'));
            Check.due(9, full::execute);
            Check.due("(1:2)", () -> Check.written(full));
            Check.due(1, () -> full.appendInput('5'));
        });
    }

    /** A tree whose input has sixty characters, and is right. */
    private static PrioritySearchTree fullInput() {
        PrioritySearchTree x = new PrioritySearchTree();
        Check.append(x, "r00-99;".repeat(7) + "r9-99;i1:02");
        return x;
    }

    private static void execute() {
        Sentence.of(53, "Executes the commands of the input, all of them or none.", () -> {
            // The last of the commands fails: by its key, its window, its numbers, by a rejection, by its syntax.
            String ahead = "d10;x1;x2;m70>71;i60:60;w3=0-9^0/2;p20:1";
            for (String last : new String[] {"d11", "p11:1", "m11>1", "r1-0", "w4=0-9^0/1", "w0=9-8^0/1", "w0=0-9^0/0", "x0",
                "x1", "i20:1", "m20>20", "w0=0-99^0/4", "q", "d", ""}) {
                PrioritySearchTree x = Twins.worked();
                Object outcome = Check.run(x, ahead + ";" + last);
                Check.due("execute with " + last + " behind", outcome instanceof Class, true);
                Check.due("all after execute with " + last + " behind", Twins.rest(x), Twins.rest(Twins.worked()));
            }
            for (String last : new String[] {"r1-9", "d60", "p20:1", "m20>19", "w0=0-99^0/5", "x3", "i21:1"}) {
                Check.due(8, () -> Check.run(Twins.worked(), ahead + ";" + last));
            }
            PrioritySearchTree x = Twins.worked();
            Check.due(7, () -> Check.run(x, ahead));
            Check.due("(((20:1)30:20)50:90((60:60)71:85))", () -> Check.written(x));
            Check.due(true, () -> x.isWindowSet(3) && !x.isWindowSet(1) && !x.isWindowSet(2));
            // A command meets the points and windows that the commands ahead of it left.
            for (String behind : new String[] {"p20:9;p50:8", "p50:30;p20:30", "m20>21;m50>51", "m50>19;m20>49", "d20", "d50",
                "r15-45;i15:4", "i0:5;p20:4", "x1;p20:5;i0:5;m50>1", "w1=20-20^3/1;p20:5;m20>0;m50>20", "x2;i72:1;p72:2"}) {
                sameAsOneByOne("d50;d20;i20:3;i50:4;" + behind);
            }
            for (String input : new String[] {"i55:20;p55:30", "i55:20;p55:3", "i55:20;m55>56", "i55:20;d55", "x1;i7:7;m7>8;p8:99",
                "w0=50-59^0/2;i55:20;p55:91", "w3=0-99^0/5;x3;x1;i40:5"}) {
                sameAsOneByOne(input);
            }
        });
        Sentence.of(53, "The input is empty after the call, also if an exception is thrown.", () -> {
            PrioritySearchTree x = Check.tree(1, 1);
            Object[][] inputs = {{"r5-9", 1}, {"d9", Check.ISE}, {"i1:1", Check.UOE}, {"i1", Check.IAE}, {"", Check.IAE}};
            for (Object[] input : inputs) {
                Check.due(input[1], () -> Check.run(x, (String) input[0]));
                Check.due(1, () -> x.appendInput('r'));
                Check.due(Check.IAE, () -> Check.run(x, ""));
                Check.due(1, x::syntaxErrorOffset);
                // Nothing is executed a second time.
                Check.fails(Check.IAE, x::execute);
                Check.due(0, x::syntaxErrorOffset);
            }
            // All sixty places are free again.
            Check.append(x, "q".repeat(60));
            Check.fails(Check.IAE, x::execute);
            Check.due(60, () -> Check.append(x, "d".repeat(60)));
        });
        Sentence.of(53, "Returns the number of commands.", () -> {
            PrioritySearchTree x = new PrioritySearchTree();
            Check.due(1, () -> Check.run(x, "r0-9"));
            Check.due(2, () -> Check.run(x, "r0-9;r0-9"));
            Check.due(12, () -> Check.run(x, "r0-9;".repeat(11) + "r0-9"));
            // The most commands that can be executed at once: each short one, as often as it can be.
            for (int key = 0; key < 10; key++) {
                x.insert(key, key);
            }
            for (int window = 0; window < 4; window++) {
                x.setWindow(window, 90, 99, 0, 1);
            }
            String shortest = "d0;d1;d2;d3;d4;d5;d6;d7;d8;d9;x0;x1;x2;x3";
            Check.due(18, () -> Check.run(x, shortest + ";i1:1;d1;i1:1;d1"));
            Check.due(0, x::size);
            x.undo();
            Check.due(18, () -> Check.run(x, shortest + ";r1-1;r1-1;i1:1;d1"));
        });
    }

    /** An input does what its commands do in inputs of their own, one after the other. */
    private static void sameAsOneByOne(String input) {
        PrioritySearchTree x = Twins.worked();
        PrioritySearchTree twin = Twins.worked();
        String[] commands = input.split(";");
        Check.due("execute of " + input, Check.run(x, input), commands.length);
        for (String command : commands) {
            Check.due(command + " of " + input, Check.run(twin, command), 1);
        }
        Check.due("the tree after " + input, Check.written(x), Check.written(twin));
        Check.due("the data after " + input, Twins.data(x), Twins.data(twin));
        Check.due(true, x::isConsistent);
    }

    private static void wrongSyntax() {
        Sentence.of(53, "Throws `IllegalArgumentException` if the input has a syntax error; syntaxErrorOffset returns its offset",
                () -> {
            Twins.wrongSyntax(0, Twins::worked, "");
            Twins.wrongSyntax(0, Twins::worked, "q");
            Twins.wrongSyntax(4, Twins::worked, "d10;");
            Twins.wrongSyntax(3, Twins::worked, "d100");
            Twins.wrongSyntax(7, Twins::worked, "d10;x1;;");
            Twins.wrongSyntax(0, PrioritySearchTree::new, "");
            Twins.wrongSyntax(60, PrioritySearchTree::new, "r0-9;".repeat(12));
            Twins.wrongSyntax(59, PrioritySearchTree::new, "r0-9;".repeat(11) + "r0-9:");
            // Ahead of what the commands would throw.
            Twins.wrongSyntax(6, Twins::worked, "i20:1;");
            Twins.wrongSyntax(4, Twins::worked, "d11;");
        });
    }

    private static void wrongCommand() {
        Sentence.of(53, "Throws `IllegalStateException` if the first command that fails has a key, a window or a number for which"
                + " its method throws another exception than UnsupportedOperationException", () -> {
            String[] wrongs = {"d11", "d99", "p11:0", "m11>12", "m11>20", "m11>11", "r1-0", "r99-98", "w4=0-99^0/24",
                "w9=0-99^0/24", "w0=1-0^0/24", "w0=99-98^0/24", "w0=0-99^0/0", "w0=0-99^0/25", "w0=0-99^0/99", "w1=0-99^0/00",
                "w4=9-0^0/0", "w0=9-8^99/24", "x0", "x3", "x4", "x9", "d10;d10", "i0:4;m0>1;p0:4", "x1;x1", "r10-30;p20:1"};
            for (String wrong : wrongs) {
                Twins.wrongCommand(Twins::worked, wrong);
                // The first command that fails decides, also ahead of one that is rejected.
                Twins.wrongCommand(Twins::worked, wrong + ";i20:1");
            }
            Twins.wrongCommand(PrioritySearchTree::new, "d0");
            // Right beside: the same commands with what is just allowed.
            for (String right : new String[] {"d10", "p10:0", "m10>11", "r0-0", "r99-99", "w3=0-99^0/24", "w0=0-99^0/5",
                "w0=99-99^99/1", "w0=50-99^0/24", "w0=0-9^99/24", "x1", "x2"}) {
                Check.due(1, () -> Check.run(Twins.worked(), right));
            }
        });
    }

    private static void rejectedCommand() {
        Sentence.of(53, "Throws `UnsupportedOperationException` if the call is rejected with the reason COMMAND_REJECTED", () -> {
            Twins.rejectedCommand(0, PrioritySearchTree.KEY_TAKEN, Twins::worked, "i20:1");
            Twins.rejectedCommand(0, PrioritySearchTree.KEY_TAKEN, Twins::worked, "m20>20");
            Twins.rejectedCommand(0, PrioritySearchTree.KEY_TAKEN, Twins::worked, "m20>50");
            Twins.rejectedCommand(0, PrioritySearchTree.WINDOW_FULL, Twins::worked, "i0:5");
            Twins.rejectedCommand(0, PrioritySearchTree.WINDOW_FULL, Twins::worked, "i60:0");
            Twins.rejectedCommand(0, PrioritySearchTree.WINDOW_FULL, Twins::worked, "m50>49");
            Twins.rejectedCommand(1, PrioritySearchTree.WINDOW_FULL, Twins::worked, "i0:4;p0:5");
            Twins.rejectedCommand(0, PrioritySearchTree.WINDOW_FULL, Twins::worked, "w0=0-99^0/4");
            Twins.rejectedCommand(0, PrioritySearchTree.POINT_LIMIT, Twins::full, "i24:7");
            Twins.rejectedCommand(0, PrioritySearchTree.POINT_LIMIT, Twins::full, "i0:7");
            Twins.rejectedCommand(2, PrioritySearchTree.POINT_LIMIT, Twins::full, "d0;i24:7;i25:7");
            // The first command that fails decides, also ahead of one that has a wrong number.
            Twins.rejectedCommand(0, PrioritySearchTree.KEY_TAKEN, Twins::worked, "i20:1;d11");
            // What the commands ahead have changed counts: a point, a window, a place.
            Twins.rejectedCommand(2, PrioritySearchTree.KEY_TAKEN, Twins::worked, "d20;i20:1;i20:1");
            Twins.rejectedCommand(1, PrioritySearchTree.WINDOW_FULL, Twins::worked, "w0=0-99^0/5;i55:1");
            Twins.rejectedCommand(1, PrioritySearchTree.WINDOW_FULL, Twins::worked, "i55:20;m55>45");
            Twins.rejectedCommand(2, PrioritySearchTree.WINDOW_FULL, Twins::worked, "w1=5-49^5/3;i6:4;p6:5");
            Twins.rejectedCommand(5, PrioritySearchTree.WINDOW_FULL, Twins::worked, "d50;d20;i20:3;i50:4;i0:5;p20:5");
            Twins.rejectedCommand(5, PrioritySearchTree.WINDOW_FULL, Twins::worked, "d50;d20;i20:3;i50:7;i0:5;m50>49");
            Twins.rejectedCommand(1, PrioritySearchTree.KEY_TAKEN, Twins::worked, "m10>11;m20>11");
            Check.due(2, () -> Check.run(Twins.worked(), "m10>11;m20>10"));
            Check.due(2, () -> Check.run(Twins.worked(), "p10:4;i0:5"));
            Check.due(2, () -> Check.run(Twins.worked(), "d20;i20:1"));
            Check.due(2, () -> Check.run(Twins.worked(), "x1;i0:5"));
            Check.due(2, () -> Check.run(Twins.full(), "d0;i24:7"));
        });
    }

    private static void offset() {
        Sentence.of(54, "Returns the offset of the latest syntax error.", () -> {
            PrioritySearchTree x = Check.tree(1, 1);
            Check.run(x, "d1;q");
            Check.due(3, x::syntaxErrorOffset);
            Check.run(x, "i12:345");
            Check.due(6, x::syntaxErrorOffset);
            // What is no syntax error leaves it as it is.
            Check.due(Check.ISE, () -> Check.run(x, "d9"));
            Check.due(Check.UOE, () -> Check.run(x, "i1:1"));
            Check.due(1, () -> Check.run(x, "r5-9"));
            x.undo();
            x.saveSnapshot();
            x.restoreSnapshot();
            Check.append(x, "dd");
            Check.due(6, x::syntaxErrorOffset);
            Check.fails(Check.IAE, x::execute);
            Check.due(1, x::syntaxErrorOffset);
        });
        Sentence.of(54, "Returns the offset.", () -> {
            PrioritySearchTree x = new PrioritySearchTree();
            Check.run(x, "");
            Check.due(0, x::syntaxErrorOffset);
            Check.run(x, "d".repeat(60));
            Check.due(1, x::syntaxErrorOffset);
            Check.run(x, "r0-9;".repeat(11) + "r0-9");
            Check.due(1, x::syntaxErrorOffset);
            Check.run(x, "r0-9;".repeat(11) + "r0-9~");
            Check.due(59, x::syntaxErrorOffset);
            Check.run(x, "r0-9;".repeat(12));
            Check.due(60, x::syntaxErrorOffset);
            Check.run(x, " ");
            Check.due(0, x::syntaxErrorOffset);
        });
        Sentence.of(54, "Throws `NoSuchElementException` if there was no syntax error", () -> {
            Twins.refused(Check.NSEE, PrioritySearchTree::new, PrioritySearchTree::syntaxErrorOffset);
            PrioritySearchTree x = Check.tree(1, 1);
            Check.append(x, "d9");
            Check.fails(Check.NSEE, x::syntaxErrorOffset);
            Check.fails(Check.ISE, x::execute);
            Check.fails(Check.NSEE, x::syntaxErrorOffset);
            Check.due(Check.UOE, () -> Check.run(x, "i1:1"));
            Check.fails(Check.NSEE, x::syntaxErrorOffset);
            Check.due(1, () -> Check.run(x, "d1"));
            Check.outcome(() -> x.appendInput((char) 127));
            Check.fails(Check.NSEE, x::syntaxErrorOffset);
            Check.run(x, "");
            Check.due(0, x::syntaxErrorOffset);
        });
    }
}
