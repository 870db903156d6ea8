/** The edges that the sentences of "Terms" name, from "Commands" to the details of the constants. */
final class RulesBoundaries {
    private static final int MIN = Integer.MIN_VALUE;
    private static final int MAX = Integer.MAX_VALUE;

    private RulesBoundaries() {
    }

    private static void terms(String sentence, Runnable test) {
        Sentence.of(Sentence.TERMS, sentence, test);
    }

    static void all() {
        commands();
        numbers();
        offsets();
        rejections();
        details();
        changes();
        undone();
        covered();
        notCovered();
        exceptions();
        firstListed();
    }

    private static void commands() {
        terms("The input has one or more commands, with \";\" between two of them.", () -> {
            PrioritySearchTree x = Check.tree(1, 1);
            Check.due(Check.IAE, () -> Check.run(x, ""));
            Check.due(1, () -> Check.run(x, "r5-9"));
            Check.due(2, () -> Check.run(x, "r5-9;r5-9"));
            for (String wrong : new String[] {";", "r5-9;", ";r5-9", "r5-9;;r5-9", "r5-9r5-9", "r5-9,r5-9", "r5-9 ;r5-9"}) {
                Check.due(Check.IAE, () -> Check.run(x, wrong));
            }
            Check.due(12, () -> Check.run(x, "r5-9;".repeat(11) + "r5-9"));
            for (int key = 2; key < 10; key++) {
                x.insert(key, key);
            }
            for (int window = 0; window < 4; window++) {
                x.setWindow(window, 0, 99, 0, 24);
            }
            Check.due(13, () -> Check.run(x, "x0;x1;x2;x3;d1;d2;d3;d4;d5;d6;d7;d8;d9"));
            Check.due(0, x::size);
        });
        terms("\"i\", a number, \":\" and a number inserts a point; \"d\" and a number deletes a point; \"p\", a number,"
                + " \":\" and a number changes a priority; \"m\", a number, \">\" and a number moves a point to another key;"
                + " \"r\", a number, \"-\" and a number deletes a range; \"w\", a digit, \"=\", a number, \"-\", a number,"
                + " \"^\", a number, \"/\" and a number sets a window with its range, its lowest priority and its limit;"
                + " \"x\" and a digit removes a window.", () -> {
            PrioritySearchTree x = new PrioritySearchTree();
            runAndSee(x, "i0:0;i99:99", "((0:0)99:99)");
            runAndSee(x, "p0:99;p99:0", "(0:99(99:0))");
            runAndSee(x, "m99>98;m0>1;m1>99", "((98:0)99:99)");
            runAndSee(x, "r0-97;r98-98", "(99:99)");
            runAndSee(x, "d99", "");
            runAndSee(x, "i0:0;i9:9;r0-99", "");
            runAndSee(x, "i0:50;i99:50;i1:49", "(0:50((1:49)99:50))");
            Check.due(2, () -> Check.run(x, "w0=0-99^50/2;w3=0-0^99/24"));
            Check.due("0,99", () -> Check.window(x, 0));
            Check.due(0, () -> x.roomInWindow(0));
            Check.due(24, () -> x.roomInWindow(3));
            Check.due(2, () -> Check.run(x, "x0;x3"));
            Check.due(false, () -> x.isWindowSet(0) || x.isWindowSet(3));
            for (String wrong : new String[] {"I1:1", "i1>1", "d1:1", "p1>1", "m1:1", "m1-1", "r1:1", "r1>1", "w00=0-9^0/1",
                "w0:0-9^0/1", "w0=0:9^0/1", "w0=0-9/1^0", "w0=0-9^0:1", "x00", "x", "n1", "-1"}) {
                Check.due(Check.IAE, () -> Check.run(x, wrong));
            }
        });
    }

    private static void runAndSee(PrioritySearchTree x, String input, String due) {
        Check.append(x, input);
        Check.due(input.split(";").length, x::execute);
        Check.due("the tree after " + input, Check.written(x), due);
    }

    private static void numbers() {
        terms("A number has one or two digits.", () -> {
            String[] forms = {"d#", "i#:1", "i1:#", "p#:1", "p7:#", "m#>1", "m7>#", "r#-99", "r0-#", "w0=#-99^0/1",
                "w0=0-#^0/1", "w0=0-9^#/1", "w0=0-9^0/#"};
            for (String form : forms) {
                PrioritySearchTree x = Check.tree(7, 7);
                wrongNumber(x, form, "", 0);
                wrongNumber(x, form, "007", 2);
                wrongNumber(x, form, "100", 2);
                wrongNumber(x, form, "-1", 0);
                wrongNumber(x, form, "1a", 1);
                Check.due("(7:7)", () -> Check.written(x));
            }
            PrioritySearchTree x = Check.tree(7, 7);
            // A window has a digit and no number.
            Check.due(Check.IAE, () -> Check.run(x, "x"));
            Check.due(Check.IAE, () -> Check.run(x, "x00"));
            Check.due(Check.IAE, () -> Check.run(x, "w=0-9^0/1"));
            Check.due(Check.IAE, () -> Check.run(x, "w00=0-9^0/1"));
            Check.due("(7:7)", () -> Check.written(x));
            Check.due(4, () -> Check.run(x, "p7:8;p07:09;m7>06;i00:9"));
            Check.due("(0:9(6:9))", () -> Check.written(x));
            Check.due(2, () -> Check.run(x, "w0=00-99^09/02;d06"));
            Check.due(1, () -> x.roomInWindow(0));
        });
    }

    private static void wrongNumber(PrioritySearchTree x, String form, String number, int wrongDigit) {
        String input = form.replace("#", number);
        Check.due("execute of " + input, Check.run(x, input), Check.IAE);
        Check.due("offset of " + input, x.syntaxErrorOffset(), form.indexOf('#') + wrongDigit);
    }

    private static void offsets() {
        terms("The offset of a syntax error is the index of the first character that cannot follow the characters ahead of it"
                + " in any input; it is the length of the input if the input ends too early.", () -> {
            String[] longest = {"i12:34", "d12", "p12:34", "m12>34", "r12-34", "w1=23-45^67/89", "x1"};
            for (String command : longest) {
                for (String ahead : new String[] {"", "d1;", "x9;i0:0;"}) {
                    PrioritySearchTree x = new PrioritySearchTree();
                    offset(x, ahead + "~", ahead.length());
                    // What follows a whole command is ";", and a third digit is too many.
                    for (String behind : new String[] {"5", " ", ":", "i", "=", "~"}) {
                        offset(x, ahead + command + behind, ahead.length() + command.length());
                    }
                    offset(x, ahead + command + ";", ahead.length() + command.length() + 1);
                    offset(x, ahead + command + ";;", ahead.length() + command.length() + 1);
                    offset(x, ahead + command + ";0", ahead.length() + command.length() + 1);
                }
            }
            tooEarly();
            wrongSigns();
            atTheEndOfTheRoom();
        });
    }

    private static void offset(PrioritySearchTree x, String input, int due) {
        Check.due("execute of " + input, Check.run(x, input), Check.IAE);
        Check.due("offset of " + input, x.syntaxErrorOffset(), due);
    }

    private static void tooEarly() {
        PrioritySearchTree x = new PrioritySearchTree();
        String[] early = {"", "i", "i1", "i12", "i1:", "i12:", "d", "p", "p1", "p12", "p1:", "m", "m1", "m12", "m1>", "r", "r1",
            "r12", "r1-", "w", "w1", "w1=", "w1=2", "w1=23", "w1=2-", "w1=2-3", "w1=2-34", "w1=2-3^", "w1=2-3^4", "w1=2-3^45",
            "w1=2-3^4/", "x", "d1;", "d1;i", "d1;w1=2-3^45/"};
        for (String input : early) {
            offset(x, input, input.length());
        }
    }

    /** A sign that another command takes, or that comes too late. */
    private static void wrongSigns() {
        PrioritySearchTree x = new PrioritySearchTree();
        offset(x, "i1>2", 2);
        offset(x, "i12>", 3);
        offset(x, "i:1", 1);
        offset(x, "i1::2", 3);
        offset(x, "p1-2", 2);
        offset(x, "m1:2", 2);
        offset(x, "m1->2", 2);
        offset(x, "r1:2", 2);
        offset(x, "r1--2", 3);
        offset(x, "d1:2", 2);
        offset(x, "d-1", 1);
        offset(x, "w12=3-4^5/6", 2);
        offset(x, "w1-2", 2);
        offset(x, "w1=2:3", 4);
        offset(x, "w1=2-3/4", 6);
        offset(x, "w1=2-3^4^5", 8);
        offset(x, "wx", 1);
        offset(x, "xx", 1);
        offset(x, "x1=", 2);
        // The first of two wrong characters.
        offset(x, "d1 ;q", 2);
        // What is no number, key, window or limit that the calls take is no wrong syntax.
        Check.due(Check.ISE, () -> Check.run(x, "w9=99-0^0/0"));
        Check.due(Check.ISE, () -> Check.run(x, "r1-0;d1"));
    }

    /** The limit of 60 characters is no part of the syntax: an input that it cuts off ends too early. */
    private static void atTheEndOfTheRoom() {
        PrioritySearchTree x = new PrioritySearchTree();
        String ahead = "x0;".repeat(19);
        offset(x, ahead + "x0;", 60);
        offset(x, ahead + "i12", 60);
        offset(x, ahead + "i1:", 60);
        offset(x, ahead + "w1=", 60);
        offset(x, ahead + "d1q", 59);
        offset(x, ahead + "qqq", 57);
        Check.due(Check.ISE, () -> Check.run(x, ahead + "d12"));
    }

    private static void rejections() {
        terms("A call is rejected for the first reason that applies, in the order in which its method names them.", () -> {
            PrioritySearchTree x = Check.full(7);
            x.setWindow(2, 0, 99, 0, 24);
            // All three reasons, then the last two, then the last one.
            rejected(x, () -> x.insert(5, 1), PrioritySearchTree.POINT_LIMIT, 24);
            x.delete(0);
            x.setWindow(2, 0, 99, 0, 23);
            rejected(x, () -> x.insert(5, 1), PrioritySearchTree.KEY_TAKEN, 7);
            rejected(x, () -> x.insert(0, 1), PrioritySearchTree.WINDOW_FULL, 2);
            x.setWindow(2, 0, 9, 0, 9);
            rejected(x, () -> x.moveKey(20, 5), PrioritySearchTree.KEY_TAKEN, 7);
            rejected(x, () -> x.moveKey(20, 0), PrioritySearchTree.WINDOW_FULL, 2);
            // Two of the three: no place, and a key that is taken; no place, and a full window.
            x.insert(50, 1);
            rejected(x, () -> x.insert(5, 1), PrioritySearchTree.POINT_LIMIT, 24);
            rejected(x, () -> x.insert(0, 1), PrioritySearchTree.POINT_LIMIT, 24);
            rejected(x, () -> x.insert(60, 1), PrioritySearchTree.POINT_LIMIT, 24);
        });
        terms("A rejected call changes nothing but the latest rejection.", () -> {
            Twins.rejected(PrioritySearchTree.POINT_LIMIT, 24, Twins::full, x -> x.insert(50, 50));
            Twins.rejected(PrioritySearchTree.KEY_TAKEN, 85, Twins::workedWithInput, x -> x.insert(70, 50));
            Twins.rejected(PrioritySearchTree.WINDOW_FULL, 1, Twins::workedWithInput, x -> x.insert(0, 99));
            Twins.rejected(PrioritySearchTree.WINDOW_FULL, 2, Twins::workedWithInput, x -> x.moveKey(50, 60));
            Twins.rejected(PrioritySearchTree.KEY_TAKEN, 10, Twins::workedWithInput, x -> x.moveKey(50, 10));
            Twins.rejected(PrioritySearchTree.WINDOW_FULL, 1, Twins::workedWithInput, x -> x.setWindow(1, 0, 50, 5, 3));
            Twins.rejected(PrioritySearchTree.WINDOW_FULL, 3, Twins::workedWithInput, x -> x.setWindow(3, 0, 50, 5, 3));
            Twins.rejected(PrioritySearchTree.WINDOW_FULL, 1, () -> {
                PrioritySearchTree x = Twins.workedWithInput();
                x.insert(0, 4);
                return x;
            }, x -> x.changePriority(0, 5));
            Twins.rejectedCommand(3, PrioritySearchTree.KEY_TAKEN, Twins::worked, "d10;x1;w0=0-9^0/1;i20:1");
        });
        terms("Every reason is a constant, and has a detail that is described there.", () -> {
            Check.due(1, () -> PrioritySearchTree.POINT_LIMIT);
            Check.due(2, () -> PrioritySearchTree.KEY_TAKEN);
            Check.due(3, () -> PrioritySearchTree.WINDOW_FULL);
            Check.due(4, () -> PrioritySearchTree.COMMAND_REJECTED);
        });
    }

    private static void rejected(PrioritySearchTree x, Check.Call call, int reason, int detail) {
        Check.fails(Check.UOE, call);
        Check.due(reason + " " + detail + " none", () -> Twins.rejection(x));
    }

    /** A window of a lower index does not count if the point is beside it, or in it before and after. */
    private static void rightBesideFullWindows() {
        PrioritySearchTree x = Check.tree(10, 50, 20, 40, 30, 30, 31, 0, 50, 60, 60, 40, 1, 7, 2, 7);
        x.setWindow(0, 10, 29, 41, 1);
        x.setWindow(1, 30, 39, 1, 1);
        x.setWindow(2, 0, 99, 60, 1);
        x.setWindow(3, 15, 29, 40, 1);
        int full = PrioritySearchTree.WINDOW_FULL;
        rejected(x, () -> x.insert(25, 41), full, 0);
        rejected(x, () -> x.insert(25, 40), full, 3);
        rejected(x, () -> x.insert(29, 40), full, 3);
        rejected(x, () -> x.insert(39, 1), full, 1);
        rejected(x, () -> x.insert(40, 60), full, 2);
        rejected(x, () -> x.changePriority(10, 60), full, 2);
        rejected(x, () -> x.changePriority(20, 41), full, 0);
        rejected(x, () -> x.changePriority(31, 1), full, 1);
        rejected(x, () -> x.changePriority(31, 2), full, 1);
        for (int key : new int[] {1, 2, 60}) {
            rejected(x, () -> x.changePriority(key, 60), full, 2);
        }
        rejected(x, () -> x.moveKey(10, 15), full, 3);
        rejected(x, () -> x.moveKey(10, 32), full, 1);
        rejected(x, () -> x.moveKey(60, 16), full, 3);
        rejected(x, () -> x.moveKey(60, 29), full, 3);
        rejected(x, () -> x.moveKey(60, 39), full, 1);
        rejected(x, () -> x.moveKey(50, 29), full, 0);
        for (String right : new String[] {"i25:39", "i14:40", "i9:59", "i39:0", "p10:59", "p20:40", "p31:0", "p60:59", "m10>14",
            "m20>29", "m60>40", "m60>14", "m50>40", "m31>39", "m30>32"}) {
            Check.due(1, () -> Check.run(x, right));
            x.undo();
        }
    }

    private static void details() {
        terms("The constants: `POINT_LIMIT = 1`: Reason: there are 24 points.", () -> {
            PrioritySearchTree x = Check.full(7);
            x.delete(23);
            // 23 points, and then 24.
            Check.due(0, () -> x.insert(99, 0));
            rejected(x, () -> x.insert(98, 0), 1, 24);
        });
        terms("The detail is 24.", () -> {
            PrioritySearchTree x = Check.full(7);
            rejected(x, () -> x.insert(50, 0), PrioritySearchTree.POINT_LIMIT, 24);
            rejected(x, () -> x.insert(0, 99), PrioritySearchTree.POINT_LIMIT, 24);
        });
        terms("`KEY_TAKEN = 2`: Reason: a point, which may be the moved point itself, has this key.", () -> {
            PrioritySearchTree x = Check.tree(0, 30, 99, 40);
            rejected(x, () -> x.moveKey(0, 0), 2, 30);
            rejected(x, () -> x.moveKey(99, 99), 2, 40);
            rejected(x, () -> x.moveKey(0, 99), 2, 40);
            rejected(x, () -> x.insert(0, 99), 2, 30);
            Check.due(Check.UOE, () -> Check.run(x, "m99>99"));
            Check.due("4 0 2", () -> Twins.rejection(x));
            // The keys right beside are free.
            x.moveKey(0, 1);
            x.moveKey(99, 98);
            Check.due("((1:30)98:40)", () -> Check.written(x));
        });
        terms("The detail is its priority.", () -> {
            PrioritySearchTree x = Check.tree(5, 0, 6, 99);
            rejected(x, () -> x.insert(5, 50), PrioritySearchTree.KEY_TAKEN, 0);
            rejected(x, () -> x.insert(6, 50), PrioritySearchTree.KEY_TAKEN, 99);
            rejected(x, () -> x.moveKey(5, 6), PrioritySearchTree.KEY_TAKEN, 99);
            rejected(x, () -> x.moveKey(6, 5), PrioritySearchTree.KEY_TAKEN, 0);
        });
        terms("`WINDOW_FULL = 3`: Reason: a window would have more points than its limit.", () -> {
            PrioritySearchTree x = Check.tree(5, 5);
            x.setWindow(3, 0, 9, 0, 2);
            Check.due(true, () -> x.canInsert(9, 0));
            x.insert(9, 0);
            rejected(x, () -> x.insert(8, 0), 3, 3);
            x.insert(10, 0);
            rejected(x, () -> x.moveKey(10, 7), 3, 3);
            rejected(x, () -> x.setWindow(3, 0, 9, 0, 1), 3, 3);
            // As many points as the limit are not more.
            Check.due(2, () -> x.setWindow(3, 0, 9, 0, 2));
        });
        terms("The detail is the lowest index of such a window.", () -> {
            PrioritySearchTree x = Check.tree(5, 5, 50, 50);
            for (int window = 3; window >= 0; window--) {
                x.setWindow(window, 0, 9, 0, 1);
            }
            for (int i = 0; i < 4; i++) {
                int window = i;
                rejected(x, () -> x.insert(6, 6), PrioritySearchTree.WINDOW_FULL, window);
                rejected(x, () -> x.moveKey(50, 6), PrioritySearchTree.WINDOW_FULL, window);
                x.removeWindow(window);
            }
            Check.due(0, () -> x.insert(6, 4));
            // A window that is full without the point does not count, and setWindow looks at its own window alone.
            x.setWindow(0, 50, 59, 0, 1);
            x.setWindow(1, 0, 9, 5, 1);
            rejected(x, () -> x.changePriority(6, 5), PrioritySearchTree.WINDOW_FULL, 1);
            rejected(x, () -> x.setWindow(2, 0, 9, 0, 1), PrioritySearchTree.WINDOW_FULL, 2);
            rightBesideFullWindows();
        });
        terms("`COMMAND_REJECTED = 4`: Reason: a command is rejected.", () -> {
            PrioritySearchTree x = Check.tree(5, 5);
            Check.due(Check.UOE, () -> Check.run(x, "i5:5"));
            Check.due("4 0 2", () -> Twins.rejection(x));
            // An input that fails otherwise is not rejected.
            x.delete(5);
            Check.due(Check.ISE, () -> Check.run(x, "d5"));
            Check.due("4 0 2", () -> Twins.rejection(x));
        });
        terms("The detail is the number of the command, from 0.", () -> {
            PrioritySearchTree x = Check.tree(1, 1);
            for (int i = 0; i < 12; i++) {
                int number = i;
                Check.due(Check.UOE, () -> Check.run(x, "r7-8;".repeat(number) + "i1:1"));
                Check.due("4 " + number + " 2", () -> Twins.rejection(x));
            }
            // The first rejected command counts, and one that another one ahead of it makes fit is not rejected.
            Check.due(Check.UOE, () -> Check.run(x, "i2:2;i1:1;i2:2;i1:1"));
            Check.due("4 1 2", () -> Twins.rejection(x));
            Check.due(Check.UOE, () -> Check.run(x, "d1;i1:1;i1:1"));
            Check.due("4 2 2", () -> Twins.rejection(x));
            PrioritySearchTree full = Check.full(7);
            for (int window = 0; window < 4; window++) {
                full.setWindow(window, 0, 99, 0, 24);
            }
            Check.due(Check.UOE, () -> Check.run(full, "d0;d1;d2;d3;d4;d5;d6;d7;d8;d9;x0;x1;x2;x3;i10:1;d11"));
            Check.due("4 14 2", () -> Twins.rejection(full));
        });
        terms("The reason for which the method of this command rejects it is the cause.", () -> {
            PrioritySearchTree x = Check.full(7);
            Check.due(Check.UOE, () -> Check.run(x, "i50:1"));
            Check.due("4 0 1", () -> Twins.rejection(x));
            Check.due(Check.UOE, () -> Check.run(x, "d0;i5:1"));
            Check.due("4 1 2", () -> Twins.rejection(x));
            Check.due(Check.UOE, () -> Check.run(x, "d0;w3=0-99^0/23;i0:1"));
            Check.due("4 2 3", () -> Twins.rejection(x));
            Check.due(Check.UOE, () -> Check.run(x, "w3=0-99^0/23"));
            Check.due("4 0 3", () -> Twins.rejection(x));
        });
    }

    private static void changes() {
        terms("A change is a call of insert, delete, changePriority, moveKey, deleteRange, setWindow, removeWindow or execute"
                + " that returns a value, also if nothing is different after it.", () -> {
            PrioritySearchTree x = Check.tree(10, 10, 20, 20);
            x.setWindow(0, 0, 99, 0, 5);
            x.saveSnapshot();
            Twins.Use[] uses = {y -> y.insert(30, 30), y -> y.delete(10), y -> y.changePriority(10, 30),
                y -> y.moveKey(10, 11), y -> y.deleteRange(0, 10), y -> y.setWindow(1, 0, 99, 0, 5), y -> y.removeWindow(0),
                y -> Check.run(y, "i30:30;d30"),
                // Nothing is different after these.
                y -> y.changePriority(10, 10), y -> y.deleteRange(11, 19), y -> y.deleteRange(21, 99),
                y -> y.setWindow(0, 0, 99, 0, 5), y -> Check.run(y, "r11-19"), y -> Check.run(y, "p10:10;r0-9")};
            String before = Twins.data(x);
            for (Twins.Use use : uses) {
                x.restoreSnapshot();
                use.of(x);
                Check.due(0, x::undo);
                Check.due(before, () -> Twins.data(x));
                Check.fails(Check.ISE, x::undo);
            }
            x.restoreSnapshot();
            // These are no changes, and neither is a call that throws.
            x.size();
            x.writeTree();
            x.writeWindow(0);
            x.canInsert(30, 30);
            x.saveSnapshot();
            Check.append(x, "r11-19");
            Check.outcome(() -> x.insert(10, 10));
            Check.outcome(() -> x.insert(100, 10));
            Check.outcome(() -> x.delete(11));
            Check.outcome(() -> x.removeWindow(1));
            Check.fails(Check.ISE, x::undo);
            Check.due(1, x::execute);
            Check.due(0, x::undo);
        });
    }

    private static void undone() {
        terms("The latest 8 changes can be undone.", () -> {
            for (int made = 0; made <= 20; made++) {
                PrioritySearchTree x = inserted(made);
                for (int left = Math.min(made, 8) - 1; left >= 0; left--) {
                    Check.due(left, x::undo);
                }
                Check.fails(Check.ISE, x::undo);
                int stays = Math.max(made - 8, 0);
                Check.due(inserted(stays).writeTree(), x::writeTree);
                Check.due(stays, x::size);
            }
            // Round and round: after some are undone, new ones take their places, and eight is the most again.
            for (int undone = 1; undone <= 8; undone++) {
                for (int more = 1; more <= 9; more++) {
                    roundAgain(undone, more);
                }
            }
        });
    }

    /** A tree with the keys from 0 on. */
    private static PrioritySearchTree inserted(int count) {
        PrioritySearchTree x = new PrioritySearchTree();
        for (int key = 0; key < count; key++) {
            x.insert(key, key);
        }
        return x;
    }

    private static void roundAgain(int undone, int more) {
        PrioritySearchTree x = inserted(11);
        for (int i = 0; i < undone; i++) {
            x.undo();
        }
        for (int key = 50; key < 50 + more; key++) {
            x.insert(key, key);
        }
        int undoable = Math.min(8 - undone + more, 8);
        for (int left = undoable - 1; left >= 0; left--) {
            Check.due(left, x::undo);
            Check.due(11 - undone + more - undoable + left, x::size);
        }
        Check.fails(Check.ISE, x::undo);
        Check.due(true, x::isConsistent);
    }

    private static void covered() {
        terms("Undo and the snapshot cover the points, the windows and the number of rotations.", () -> {
            PrioritySearchTree x = Check.tree(50, 90, 20, 80, 10, 85);
            x.setWindow(0, 0, 0, 0, 1);
            x.setWindow(3, 10, 99, 80, 24);
            String tree = Check.written(x);
            String data = Twins.data(x);
            x.saveSnapshot();
            String changes = "d20;i99:99;x3;w0=1-2^3/4;w1=0-99^99/1";
            Check.due(5, () -> Check.run(x, changes));
            Check.due(false, () -> Twins.data(x).equals(data));
            x.undo();
            Check.due(data, () -> Twins.data(x));
            Check.due(tree, () -> Check.written(x));
            Check.run(x, changes);
            x.insert(0, 0);
            x.restoreSnapshot();
            Check.due(data, () -> Twins.data(x));
            Check.due(tree, () -> Check.written(x));
            // The range, the lowest priority and the limit of the windows are the earlier ones too.
            x.insert(0, 0);
            Check.due(0, () -> x.roomInWindow(0));
            Check.due("10,20,50", () -> Check.window(x, 3));
            Check.due(21, () -> x.roomInWindow(3));
        });
    }

    private static void notCovered() {
        terms("They do not cover the input, the output, the latest rejection and the latest syntax error.", () -> {
            for (boolean byUndo : new boolean[] {true, false}) {
                PrioritySearchTree x = Check.tree(10, 10);
                x.saveSnapshot();
                x.insert(20, 20);
                Check.run(x, "i1:1;d1q");
                Check.outcome(() -> x.insert(20, 1));
                x.writeTree();
                Check.append(x, "d10");
                Check.due(1, () -> byUndo ? x.undo() : x.restoreSnapshot());
                Check.due("2 20 none", () -> Twins.rejection(x));
                Check.due(7, x::syntaxErrorOffset);
                Check.due("((10:10)20:20)", () -> Check.output(x, 14));
                Check.fails(Check.IOOBE, () -> x.outputAt(14));
                Check.due(4, () -> x.appendInput(';'));
                Check.append(x, "i5:5");
                Check.due(2, x::execute);
                Check.due("(5:5)", () -> Check.written(x));
            }
        });
    }

    private static void exceptions() {
        terms("A call that throws an exception changes nothing, except where this is stated.", () -> {
            Twins.Use[] arguments = {x -> x.insert(100, 0), x -> x.insert(0, -1), x -> x.changePriority(10, 100),
                x -> x.moveKey(10, -1), x -> x.deleteRange(50, 49), x -> x.nearestKey(100), x -> x.countInRange(-1, 99),
                x -> x.topInRange(99, 0), x -> x.countAbove(0, 99, 100), x -> x.sumInRange(0, 100),
                x -> x.setWindow(1, 0, 49, 5, 25), x -> x.setWindow(1, 49, 48, 5, 3), x -> x.canInsert(100, 0),
                x -> x.appendInput((char) 127)};
            for (Twins.Use use : arguments) {
                Twins.refused(Check.IAE, Twins::workedWithInput, use);
            }
            Twins.Use[] elements = {x -> x.delete(11), x -> x.changePriority(11, 1), x -> x.moveKey(11, 12),
                x -> x.removeWindow(0), x -> x.writeWindow(3), x -> x.priorityOf(11), x -> x.floorKey(9),
                x -> x.windowKeyAt(1, 3), x -> x.parentOf(50), x -> x.causeReason()};
            for (Twins.Use use : elements) {
                Twins.refused(Check.NSEE, Twins::workedWithInput, use);
            }
            Twins.Use[] indices = {x -> x.setWindow(4, 0, 9, 0, 1), x -> x.removeWindow(-1), x -> x.writeWindow(4),
                x -> x.outputAt(-1), x -> x.outputAt(8), x -> x.windowKeyAt(4, 0)};
            for (Twins.Use use : indices) {
                Twins.refused(Check.IOOBE, Twins::workedWithInput, use);
            }
            Twins.refused(Check.ISE, PrioritySearchTree::new, PrioritySearchTree::undo);
            Twins.refused(Check.ISE, PrioritySearchTree::new, PrioritySearchTree::restoreSnapshot);
            Twins.refused(Check.AE, PrioritySearchTree::new, PrioritySearchTree::meanDepth);
            Twins.refused(Check.AE, PrioritySearchTree::new, PrioritySearchTree::leafShare);
            // Where it is stated: execute empties the input and keeps the offset.
            Twins.wrongSyntax(4, Twins::worked, "d10;q");
            Twins.wrongCommand(Twins::worked, "d10;d10");
        });
    }

    private static void firstListed() {
        terms("If several exceptions of a method apply, the one that is listed first is thrown.", () -> {
            PrioritySearchTree x = Twins.worked();
            Check.fails(Check.IAE, () -> x.insert(50, 100));
            Check.fails(Check.IAE, () -> x.insert(100, 10));
            Check.fails(Check.IAE, () -> Check.full(7).insert(0, -1));
            Check.fails(Check.NSEE, () -> x.changePriority(11, 100));
            Check.fails(Check.NSEE, () -> x.moveKey(11, 100));
            Check.fails(Check.NSEE, () -> x.moveKey(11, 50));
            Check.fails(Check.NSEE, () -> x.moveKey(100, 0));
            Check.fails(Check.IOOBE, () -> x.setWindow(4, 9, 8, 100, 0));
            Check.fails(Check.IOOBE, () -> x.setWindow(-1, 0, 99, 0, 1));
            Check.fails(Check.IAE, () -> x.setWindow(1, 0, 99, 0, 0));
            Check.fails(Check.IAE, () -> x.setWindow(1, 0, 100, 0, 1));
            Check.fails(Check.IOOBE, () -> x.removeWindow(4));
            Check.fails(Check.IOOBE, () -> x.pointsInWindow(-1));
            Check.fails(Check.IOOBE, () -> x.roomInWindow(4));
            Check.fails(Check.IOOBE, () -> x.windowKeyAt(4, -1));
            Check.fails(Check.IOOBE, () -> x.writeWindow(4));
            PrioritySearchTree none = new PrioritySearchTree();
            for (int wrong : new int[] {-1, 100, MIN, MAX}) {
                Check.fails(Check.IAE, () -> none.nearestKey(wrong));
                Check.fails(Check.IAE, () -> none.topInRange(wrong, 50));
                Check.fails(Check.IAE, () -> none.topInRangeByScan(50, wrong));
            }
            Check.append(x, "d".repeat(60));
            Check.fails(Check.IAE, () -> x.appendInput((char) 31));
            Check.fails(Check.ISE, () -> x.appendInput('d'));
            Check.fails(Check.IAE, x::execute);
            // A wrong syntax is found ahead of what its commands would throw; of the commands, the first one decides.
            Check.due(Check.IAE, () -> Check.run(x, "d11;q"));
            Check.due(Check.IAE, () -> Check.run(x, "i50:1;q"));
            Check.due(Check.ISE, () -> Check.run(x, "d11;i50:1"));
            Check.due(Check.UOE, () -> Check.run(x, "i50:1;d11"));
        });
        terms("A call of canInsert does not change the latest rejection, and neither does a call of execute that throws another"
                + " exception than UnsupportedOperationException.", () -> {
            PrioritySearchTree x = Check.tree(5, 50);
            x.setWindow(1, 0, 9, 60, 1);
            x.insert(6, 60);
            x.canInsert(5, 1);
            Check.run(x, "d7");
            Check.run(x, "d7;i5:5");
            Check.run(x, "i5:5;");
            Check.due("none none none", () -> Twins.rejection(x));
            Check.fails(Check.UOE, () -> x.insert(5, 1));
            Check.due(false, () -> x.canInsert(7, 60));
            Check.due(true, () -> x.canInsert(7, 59));
            Check.due(Check.ISE, () -> Check.run(x, "d7;i7:60"));
            Check.due(Check.IAE, () -> Check.run(x, "i7:60;"));
            Check.due(1, () -> Check.run(x, "i7:59"));
            Check.due("2 50 none", () -> Twins.rejection(x));
            Check.due(Check.UOE, () -> Check.run(x, "p7:60"));
            Check.due(false, () -> x.canInsert(5, 1));
            Check.due(Check.ISE, () -> Check.run(x, "d8"));
            Check.due("4 0 3", () -> Twins.rejection(x));
        });
    }
}
