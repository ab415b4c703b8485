/** For each promise what the document asks: ordinary calls, the edges, the wrong calls. */
public final class PromiseTest {
    private static final String INDEX = "IndexOutOfBoundsException";
    private static final String ARGUMENT = "IllegalArgumentException";
    private static final String STATE = "IllegalStateException";
    private static final String WIDE = "(A(AnBnCnDnEnFn)B(AnBnCnDnEnFnGn)C(AnBnCnDnEnFnGn))";

    private static int passed = 0;
    private static int failed = 0;
    private static String about = "";

    private interface Call {
        Object make();
    }

    private static void same(String call, Object is, Object due) {
        if (due.equals(is)) {
            passed++;
        } else {
            failed++;
            System.out.println(about + ": " + call + " answered " + is + ", due is " + due);
        }
    }

    private static void refuses(String call, String due, LearnedShapes x, Call made) {
        long before = x == null ? 0 : x.digest();
        String is = "nothing";
        try {
            made.make();
        } catch (IndexOutOfBoundsException | IllegalArgumentException | IllegalStateException e) {
            is = e.getClass().getSimpleName();
        }
        same(call + " throws", is, due);
        same(call + " changes nothing", x == null ? 0 : x.digest(), before);
    }

    private static LearnedShapes type(LearnedShapes x, String text) {
        x.clearBuffer();
        for (int i = 0; i < text.length(); i++) {
            x.append(text.charAt(i));
        }
        return x;
    }

    private static LearnedShapes learnt(String... texts) {
        LearnedShapes x = new LearnedShapes();
        for (String text : texts) {
            type(x, text).learn(0);
        }
        return x;
    }

    private static LearnedShapes both(String first, String second) {
        LearnedShapes x = new LearnedShapes();
        if (!first.isEmpty()) {
            type(x, first).learn(0);
        }
        if (!second.isEmpty()) {
            type(x, second).learn(1);
        }
        return x;
    }

    private static String nodes(LearnedShapes x, int shape, int what) {
        StringBuilder s = new StringBuilder();
        for (int i = 0; i < x.shape(shape, 1); i++) {
            s.append(i == 0 ? "" : " ").append(x.node(shape, i, what));
        }
        return s.toString();
    }

    private static void promise1() {
        about = "1 new object";
        LearnedShapes x = new LearnedShapes();
        same("NONE", LearnedShapes.NONE, -1);
        same("nodes", x.shape(0, 1) + x.shape(1, 1), 0);
        same("documents", x.shape(0, 0) + x.shape(1, 0), 0);
        same("buffer, setting, saved", x.count(0) + x.count(1) + x.count(2), 0);
        refuses("undo()", STATE, x, x::undo);
    }

    private static void promise2() {
        about = "2 learn";
        LearnedShapes x = type(new LearnedShapes(), "(A5B'x')");
        refuses("learn(2)", INDEX, x, () -> x.learn(2));
        refuses("learn(-1)", INDEX, x, () -> x.learn(-1));
        same("learn(1)", x.learn(1), 3);
        same("buffer", x.count(1), 0);
        same("saved", x.count(2), 1);
        refuses("learn(0), empty", ARGUMENT, x, () -> x.learn(0));
        refuses("learn(5), empty", INDEX, x, () -> x.learn(5));
        type(x, "(A5");
        refuses("learn(0), incomplete", ARGUMENT, x, () -> x.learn(0));
        type(x, "(A5))");
        refuses("learn(0), too long", ARGUMENT, x, () -> x.learn(0));
        kindsAreJoined();
        valuesAreCounted();
        same("() twice", learnt("()", "()").node(0, 0, 4), 2);
        same("in the order of letters", nodes(learnt("(H1)", "(B(C1)D1)", "(B(B1)A1E1)"), 0, 1),
                "-1 0 1 1 2 3 4 7");
        anyHasNoChildren();
        nodesAreRefused();
        anyIsRefused();
    }

    private static void kindsAreJoined() {
        String[] values = {"n", "t", "7", "7.5", "'x'", "[]", "()"};
        int[][] due = {
            {0, 1, 2, 3, 4, 5, 6}, {1, 1, 4, 4, 4, 7, 7}, {2, 4, 2, 3, 4, 7, 7},
            {3, 4, 3, 3, 4, 7, 7}, {4, 4, 4, 4, 4, 7, 7}, {5, 7, 7, 7, 7, 5, 7},
            {6, 7, 7, 7, 7, 7, 6}};
        for (int i = 0; i < values.length; i++) {
            for (int j = 0; j < values.length; j++) {
                LearnedShapes x = learnt("(A" + values[i] + ")", "(A" + values[j] + ")");
                same(values[i] + " and " + values[j], x.node(0, 1, 0), due[i][j]);
                int made = due[i][j] == i ? 1 : 2;
                same(values[i] + " then " + values[j] + " made", x.node(0, 1, 8), made);
                LearnedShapes y = learnt("(A[[],1])", "(A" + values[j] + ")");
                int inRow = j == 5 || j == 0 ? 5 : 7;
                same("row and " + values[j], y.node(0, 1, 0), inRow);
            }
        }
    }

    private static void valuesAreCounted() {
        LearnedShapes x = learnt("(A[1,n,2.5,()]C())", "(CnA[])", "(B(A1)C(A'a'))");
        same("kinds", nodes(x, 0, 0), "6 5 7 6 2 6 4");
        same("letters", nodes(x, 0, 1), "-1 0 8 1 0 2 0");
        same("values", nodes(x, 0, 4), "3 2 4 1 1 3 1");
        same("marks", nodes(x, 0, 5), "0 0 1 0 0 1 0");
        same("groups", nodes(x, 0, 6), "3 0 1 1 0 2 0");
        same("optional", nodes(x, 0, 7), "0 1 0 1 0 0 1");
        same("made", nodes(x, 0, 8), "1 1 1 3 3 1 3");
    }

    private static void anyHasNoChildren() {
        LearnedShapes x = learnt("(A(B[1]C2)D'a')", "(A[1])");
        same("kinds", nodes(x, 0, 0), "6 7 4");
        type(x, "(A(B[1]))").learn(0);
        type(x, "(An)").learn(0);
        same("kinds then", nodes(x, 0, 0), "6 7 4");
        same("values of any", x.node(0, 1, 4), 4);
        same("groups of any", x.node(0, 1, 6), 2);
        same("mark of any", x.node(0, 1, 5), 1);
        same("made of any", x.node(0, 1, 8), 2);
        LearnedShapes y = learnt("(A(B1)C1)", "(A[(B1)]C'a')", "(A(B1)C2)");
        same("behind any", nodes(y, 0, 4), "3 3 3");
        same("letters behind any", nodes(y, 0, 1), "-1 0 2");
        same("any inside of a document", nodes(learnt("(A[(B(C1)),(B[]),(B()),5])"), 0, 0), "6 5 7");
    }

    private static void nodesAreRefused() {
        LearnedShapes x = type(new LearnedShapes(), WIDE);
        same("nodes", x.learn(0), 24);
        type(x, "(D(AnBnCnDnEn))");
        same("30 nodes", x.learn(0), 30);
        type(x, "(Dt)");
        same("gone", x.learn(0), 25);
        x.undo();
        type(x, "(E1)");
        refuses("31 nodes", STATE, x, () -> x.learn(0));
        refuses("learn(2)", INDEX, x, () -> x.learn(2));
        type(x, "(A[(AnBnCnDnEnFnGnHn)]E1)");
        same("more for a while only", x.learn(0), 25);
        type(x, "(E[(AnBnCnDnEnFnGnHn),1])");
        same("E is any", x.learn(0), 25);
        LearnedShapes y = learnt(WIDE);
        type(y, "(H[(AnBnCnDnEnFnGnHn),1])");
        same("more than 30 before the end", y.learn(0), 26);
    }

    private static void anyIsRefused() {
        LearnedShapes x = learnt("(A1)");
        x.set(1);
        type(x, "(A[])");
        refuses("any", STATE, x, () -> x.learn(0));
        x.set(0);
        same("any with 0", x.learn(0), 2);
        x.set(1);
        type(x, "(A())");
        same("any before", x.learn(0), 2);
        type(x, "(B[1,[]])");
        refuses("any in a new row", STATE, x, () -> x.learn(0));
        type(x, "(B[1,'x'])");
        same("word", x.learn(0), 4);
    }

    private static void promise3() {
        about = "3 join";
        LearnedShapes x = both("(A1BnC(A1)D[1])", "(A1.5Bt)");
        type(x, "(AnE[[]])").learn(1);
        refuses("join(2)", INDEX, x, () -> x.join(2));
        refuses("join(-1)", INDEX, x, () -> x.join(-1));
        same("ifJoined()", x.ifJoined(), 9);
        same("join(0)", x.join(0), 9);
        same("saved", x.count(2), 4);
        same("kinds", nodes(x, 0, 0), "6 3 1 6 2 5 2 5 5");
        same("values", nodes(x, 0, 4), "3 3 2 1 1 1 1 1 1");
        same("marks", nodes(x, 0, 5), "0 1 1 0 0 0 0 0 0");
        same("groups", nodes(x, 0, 6), "3 0 0 1 0 0 0 0 0");
        same("made", nodes(x, 0, 8), "1 2 2 1 1 1 1 3 3");
        same("documents", x.shape(0, 0), 3);
        same("the other one", nodes(x, 1, 0), "6 3 1 5 5");
        joinOfAny();
        joinOfMany();
        numbersGoRound();
        valuesOfRowsGoRound();
    }

    private static void joinOfAny() {
        LearnedShapes x = both("(A(B1C[1]))", "(A[1])");
        same("any", x.join(1), 2);
        same("kinds", nodes(x, 1, 0), "6 7");
        same("made", nodes(x, 1, 8), "1 2");
        same("any stays", x.join(1), 2);
        same("made then", nodes(x, 1, 8), "1 2");
        x.set(1);
        x.forget(1);
        type(x, "(A2)").learn(1);
        same("the setting does not matter", x.join(0), 2);
        LearnedShapes y = both("", "(A1)");
        same("none with nodes", y.join(0), 2);
        same("made of the other one", nodes(y, 0, 8), "1 1");
        same("letters of the other one", nodes(y, 0, 1), "-1 0");
        same("with none", both("(A1)", "").join(0), 2);
        same("none with none", both("", "").join(1), 0);
        same("one node with none", both("()", "").join(0), 1);
        same("none with one node", both("", "()").join(0), 1);
        LearnedShapes z = both("(A(B(C[1])))", "(A(B(C[1.5]D'x')))");
        same("deepest", z.join(0), 6);
        same("kinds of the deepest", nodes(z, 0, 0), "6 6 6 5 3 4");
        same("made of the deepest", nodes(z, 0, 8), "1 1 1 1 2 2");
        same("depths", nodes(z, 0, 3), "0 1 2 3 4 3");
    }

    private static void joinOfMany() {
        LearnedShapes x = both(WIDE, "(D(AnBnCnDnEn))");
        same("30 nodes", x.join(0), 30);
        LearnedShapes y = both(WIDE, "(D(AnBnCnDnEnFn))");
        refuses("31 nodes", STATE, y, () -> y.join(1));
        refuses("no such shape", INDEX, y, () -> y.join(7));
        same("ifJoined()", y.ifJoined(), 31);
    }

    private static void numbersGoRound() {
        LearnedShapes x = both("(A1)", "()");
        int first = 1;
        int second = 1;
        int part = 1;
        int otherPart = 0;
        boolean round = false;
        for (int i = 0; i < 60; i++) {
            x.join(i % 2);
            if (i % 2 == 0) {
                first += second;
                part += otherPart;
            } else {
                second += first;
                otherPart += part;
            }
            same("documents after " + i, x.shape(i % 2, 0), i % 2 == 0 ? first : second);
            same("groups after " + i, x.node(i % 2, 0, 6), i % 2 == 0 ? first : second);
            same("values after " + i, x.node(i % 2, 1, 4), i % 2 == 0 ? part : otherPart);
            round |= x.shape(i % 2, 0) < 0;
            boolean missing = i % 2 == 0 ? part < first : otherPart < second;
            same("optional after " + i, x.node(i % 2, 1, 7), missing ? 1 : 0);
        }
        same("went round", round, true);
    }

    private static void valuesOfRowsGoRound() {
        LearnedShapes x = both("(A[1,1,1])", "(A[1])");
        boolean round = false;
        for (int i = 0; i < 50; i++) {
            x.join(i % 2);
            round |= x.node(i % 2, 2, 4) < 0;
            same("values of a row cannot be missing", x.node(i % 2, 2, 7), 0);
        }
        same("went round", round, true);
    }

    private static void promise4() {
        about = "4 forget";
        LearnedShapes x = both("(A1)", "(A1B2)");
        refuses("forget(2)", INDEX, x, () -> x.forget(2));
        refuses("forget(-1)", INDEX, x, () -> x.forget(-1));
        same("forget(1)", x.forget(1), 3);
        same("nodes", x.shape(1, 1), 0);
        same("documents", x.shape(1, 0), 0);
        same("the other one", x.shape(0, 1), 2);
        same("again", x.forget(1), 0);
        same("saved", x.count(2), 4);
        type(x, "(A1)").learn(1);
        same("made", x.node(1, 1, 8), 1);
    }

    private static void promise5() {
        about = "5 swap";
        LearnedShapes x = both("(A1)", "(A1B2)");
        type(x, "(");
        same("swap()", x.swap(), 3);
        same("nodes", x.shape(0, 1) * 10 + x.shape(1, 1), 32);
        same("saved", x.count(2), 3);
        same("buffer", x.count(1), 1);
        same("again", x.swap(), 2);
    }

    private static void promise6() {
        about = "6 set";
        LearnedShapes x = new LearnedShapes();
        refuses("set(2)", ARGUMENT, x, () -> x.set(2));
        refuses("set(-1)", ARGUMENT, x, () -> x.set(-1));
        same("set(1)", x.set(1), 0);
        same("set(1) again", x.set(1), 1);
        same("set(0)", x.set(0), 1);
        same("saved", x.count(2), 3);
        x.undo();
        same("setting", x.count(0), 1);
    }

    private static void promise7() {
        about = "7 append";
        LearnedShapes x = new LearnedShapes();
        refuses("append(32)", ARGUMENT, x, () -> x.append(32));
        refuses("append(127)", ARGUMENT, x, () -> x.append(127));
        for (int i = 1; i <= 60; i++) {
            same("append", x.append(i % 2 == 0 ? 33 : 126), i);
        }
        refuses("append, full", STATE, x, () -> x.append(40));
        refuses("append(32), full", ARGUMENT, x, () -> x.append(32));
        same("saved", x.count(2), 0);
    }

    private static void promise8() {
        about = "8 clearBuffer";
        LearnedShapes x = type(new LearnedShapes(), "(A1)");
        same("clearBuffer()", x.clearBuffer(), 4);
        same("again", x.clearBuffer(), 0);
        same("length", x.count(1), 0);
        same("saved", x.count(2), 0);
        same("append", x.append('('), 1);
        same("firstError()", x.firstError(), 1);
    }

    private static void promise9() {
        about = "9 firstError";
        String[] good = {"", "(", "()", "(A", "(A-", "(A-0", "(A-0.", "(A-0.0", "(A0.00)", "(A1234)",
            "(A-1234.99)", "(A[", "(A[]", "(A[1,", "(A[1,n])", "(A'", "(A'abcde'", "(A'z'B",
            "(A[[[1]]])", "(A(B(C(D'x'))))", "(AnBnCnDnEnFnGnHn)", "(AnBnCnDnEnFnGnHn", "(HtAf)",
            "(A(A1)B1)", "(A[(A1),(A1)])", "(A0B", "(A0.5B", "(A[0,0.1,-5])", "(A1.5",
            "(A7B'x'C-8D'abcde')", "(A1234B'abcde'C1234.56D1234)", "(A[-1234,-0.5,1234.5,'a',1])"};
        for (String text : good) {
            same(text, type(new LearnedShapes(), text).firstError(), text.length());
        }
        // the last character is the error
        String[] wrong = {")", "[", "n", "A", "1", "()(", "())", "((", "(1", "(A)", "(A]", "(A,", "(I",
            "(a", "(@", "(AA", "(A1A", "(A--", "(A-n", "(A-)", "(A.", "(A-.", "(A-0)", "(A-00", "(A-0B", "(A00",
            "(A01", "(A12345", "(A1.)", "(A1..", "(A1.123", "(A1.5.", "(A1.B", "(A''", "(A'abcdef",
            "(A'A", "(A'1", "(A'`", "(A'{", "(A[,", "(A[1,]", "(A[1)", "(A[1n", "(A[)", "(A[1,)", "(A[1]]",
            "(A[[[[", "(A[[[(", "(A(B(C(D(", "(A(B(C(D[", "(AnBnCnDnEnFnGnHnA", "(Anf", "(Ann", "(Ax",
            "(AnBnCnDnEnFnGnHnI", "(A[-,", "(A[-0,", "(A[0.,", "(A/", "(A:", "(A1/", "(A1:", "(A-/", "(A-:",
            "(A(B1)(", "(A(B1B", "(A1,", "(A[n,,", "(A[n(", "(AnB)", "(A[nA"};
        for (String text : wrong) {
            int due = text.length() - 1;
            LearnedShapes x = type(new LearnedShapes(), text);
            same(text, x.firstError(), due);
            x.append('(');
            same(text + "(", x.firstError(), due);
        }
        same("changes nothing", type(new LearnedShapes(), "(A").count(1), 2);
    }

    private static void promise10() {
        about = "10 undo";
        LearnedShapes x = new LearnedShapes();
        refuses("undo()", STATE, x, x::undo);
        type(x, "(A1)").learn(0);
        long digest = x.digest();
        x.swap();
        x.set(1);
        type(x, "(A");
        same("undo()", x.undo(), 2);
        same("buffer stays", x.count(1), 2);
        same("undo() of swap", x.undo(), 1);
        x.clearBuffer();
        same("as before", x.digest(), digest);
        same("undo() of learn", x.undo(), 0);
        same("nodes", x.shape(0, 1), 0);
        refuses("undo() again", STATE, x, x::undo);
        sixAreSaved();
    }

    private static void sixAreSaved() {
        LearnedShapes x = new LearnedShapes();
        for (int i = 0; i < 9; i++) {
            type(x, "(A" + i + ")").learn(0);
            same("saved", x.count(2), Math.min(i + 1, 6));
        }
        for (int i = 5; i >= 0; i--) {
            same("undo()", x.undo(), i);
            same("documents", x.shape(0, 0), 3 + i);
            same("values", x.node(0, 1, 4), 3 + i);
        }
        refuses("undo()", STATE, x, x::undo);
        x.set(0);
        x.forget(0);
        x.join(0);
        x.join(1);
        x.swap();
        same("all are saved", x.count(2), 5);
    }

    private static void promise11() {
        about = "11 node";
        LearnedShapes x = learnt("(A(C1B[n])H'x')", "(H1)");
        same("kinds", nodes(x, 0, 0), "6 6 5 0 2 4");
        same("letters", nodes(x, 0, 1), "-1 0 1 8 2 7");
        same("parents", nodes(x, 0, 2), "-1 0 1 2 1 0");
        same("depths", nodes(x, 0, 3), "0 1 2 3 2 1");
        same("values", nodes(x, 0, 4), "2 1 1 1 1 2");
        same("marks", nodes(x, 0, 5), "0 0 0 1 0 0");
        same("groups", nodes(x, 0, 6), "2 1 0 0 0 0");
        same("optional", nodes(x, 0, 7), "0 1 0 0 0 0");
        same("made", nodes(x, 0, 8), "1 1 1 1 1 1");
        same("children", nodes(x, 0, 9), "2 2 1 0 0 0");
        refuses("node(0, 6, 0)", INDEX, x, () -> x.node(0, 6, 0));
        refuses("node(0, -1, 0)", INDEX, x, () -> x.node(0, -1, 0));
        refuses("node(2, 0, 0)", INDEX, x, () -> x.node(2, 0, 0));
        refuses("node(1, 0, 0)", INDEX, x, () -> x.node(1, 0, 0));
        refuses("node(0, 6, 10)", INDEX, x, () -> x.node(0, 6, 10));
        refuses("node(0, 5, 10)", ARGUMENT, x, () -> x.node(0, 5, 10));
        refuses("node(0, 5, -1)", ARGUMENT, x, () -> x.node(0, 5, -1));
    }

    private static void promise12() {
        about = "12 child";
        LearnedShapes x = learnt("(A(C1B[n])H'x')");
        same("A", x.child(0, 0, 0), 1);
        same("H", x.child(0, 0, 7), 5);
        same("B", x.child(0, 0, 1), -1);
        same("A B", x.child(0, 1, 1), 2);
        same("A C", x.child(0, 1, 2), 4);
        same("A B row", x.child(0, 2, 8), 3);
        same("row of a group", x.child(0, 0, 8), -1);
        refuses("child(0, 0, 9)", ARGUMENT, x, () -> x.child(0, 0, 9));
        refuses("child(0, 0, -1)", ARGUMENT, x, () -> x.child(0, 0, -1));
        refuses("child(0, 6, 9)", INDEX, x, () -> x.child(0, 6, 9));
        refuses("child(-1, 0, 0)", INDEX, x, () -> x.child(-1, 0, 0));
        refuses("child(1, 0, 0)", INDEX, x, () -> x.child(1, 0, 0));
    }

    private static void promise13() {
        about = "13 shape";
        LearnedShapes x = learnt("(A[[n]]B1C2)", "(AnB[])", "(B1)");
        int[] due = {3, 6, 1, 2, 2, 3};
        for (int what = 0; what < due.length; what++) {
            same("shape(0, " + what + ")", x.shape(0, what), due[what]);
            same("shape(1, " + what + ")", x.shape(1, what), what == 5 ? -1 : 0);
        }
        same("depth of ()", learnt("()").shape(0, 5), 0);
        refuses("shape(0, 6)", ARGUMENT, x, () -> x.shape(0, 6));
        refuses("shape(0, -1)", ARGUMENT, x, () -> x.shape(0, -1));
        refuses("shape(2, 6)", INDEX, x, () -> x.shape(2, 6));
    }

    private static void promise14() {
        about = "14 document";
        LearnedShapes x = type(new LearnedShapes(), "(A[n,t,f,[()]]B-1C-0.5D'x'E(A7.25))");
        int[] due = {12, 1, 2, 1, 2, 1, 2, 3, 4};
        for (int what = 0; what < due.length; what++) {
            same("document(" + what + ")", x.document(what), due[what]);
        }
        refuses("document(9)", ARGUMENT, x, () -> x.document(9));
        refuses("document(-1)", ARGUMENT, x, () -> x.document(-1));
        same("too long", type(x, "()n").document(0), -1);
        same("incomplete", type(x, "(A1").document(8), -1);
        same("empty", type(x, "").document(0), -1);
        same("least", type(x, "()").document(0), 1);
        same("nested", type(x, "()").document(8), 1);
        same("nested with parts", type(x, "(A(B1C'x'))").document(8), 2);
        type(x, "(");
        refuses("document(9), incomplete", ARGUMENT, x, () -> x.document(9));
    }

    private static void promise15() {
        about = "15 count";
        LearnedShapes x = type(new LearnedShapes(), "(A1");
        x.set(1);
        x.swap();
        same("count(0)", x.count(0), 1);
        same("count(1)", x.count(1), 3);
        same("count(2)", x.count(2), 2);
        refuses("count(3)", ARGUMENT, x, () -> x.count(3));
        refuses("count(-1)", ARGUMENT, x, () -> x.count(-1));
    }

    private static String fit(LearnedShapes x, String text) {
        type(x, text);
        return x.fits(0, 0) + " " + x.fits(0, 1) + " " + x.fits(0, 2);
    }

    private static void promise16() {
        about = "16 fits";
        LearnedShapes x = learnt("(A1.5B(A[1,n]C'x')D[])", "(BnA2D[]E[1])", "(A2B(A[]C'y')D[]E(A1))");
        same("kinds", nodes(x, 0, 0), "6 3 6 5 2 4 5 7");
        same("fits", fit(x, "(A5B(A[]C'z')D[])"), "0 -1 -1");
        same("nothing", fit(x, "(D[]A5Bn)"), "0 -1 -1");
        same("nothing that is not marked", fit(x, "(AnBtD[])"), "1 2 1");
        same("kind", fit(x, "(A1BtD[])"), "1 4 2");
        same("kind below", fit(x, "(A1B(A[1,1.5]C7)D[])"), "1 9 4");
        same("no child for a letter", fit(x, "(A1F(A1)B(D1))"), "2 3 0");
        same("no child for a row", fit(x, "(A1D[55])"), "2 5 6");
        same("missing", fit(x, "(A1Bn)"), "3 5 0");
        same("missing below", fit(x, "(A1B(C'x')D[])"), "3 9 2");
        same("missing is behind", fit(x, "(B(C'x'A['a'])C1)"), "1 9 4");
        same("any", fit(x, "(A1BnD[]E(F[1]))"), "0 -1 -1");
        same("nothing for any", fit(x, "(A1BnD[]En)"), "1 9 7");
        same("incomplete", fit(x, "(A1"), "-1 -1 -1");
        x.swap();
        same("no nodes", fit(x, "()"), "1 0 -1");
        same("no nodes, incomplete", fit(x, "("), "-1 -1 -1");
        refuses("fits(2, 0)", INDEX, x, () -> x.fits(2, 0));
        refuses("fits(-1, 3)", INDEX, x, () -> x.fits(-1, 3));
        refuses("fits(0, 3)", ARGUMENT, x, () -> x.fits(0, 3));
        refuses("fits(0, -1)", ARGUMENT, x, () -> x.fits(0, -1));
        fitsByKind();
        LearnedShapes y = learnt("(A(B(C[1])))");
        same("deepest", fit(y, "(A(B(C[2])))"), "0 -1 -1");
        same("kind of the deepest", fit(y, "(A(B(C[2,t])))"), "1 9 4");
        same("missing in the deepest", fit(learnt("(A(B(C(D1))))"), "(A(B(C())))"), "3 7 3");
        same("row of the deepest", fit(learnt("(A[[[]]])"), "(A[[[],[7]]])"), "2 8 3");
    }

    private static void fitsByKind() {
        String[] values = {"n", "t", "7", "7.5", "'x'", "[]", "()"};
        String[] fitting = {"n", "nt", "n7", "n77.5", "nt77.5'x'", "n[]", "n()"};
        for (int i = 0; i < values.length; i++) {
            LearnedShapes x = learnt("(An)", "(A" + values[i] + ")");
            LearnedShapes y = learnt("(A" + values[i] + ")");
            for (String value : values) {
                boolean due = fitting[i].contains(value);
                same(value + " for " + values[i], fit(x, "(A" + value + ")"), due ? "0 -1 -1" : "1 2 1");
                due = due && (i == 0 || !value.equals("n"));
                same(value + " alone for " + values[i], fit(y, "(A" + value + ")"),
                        due ? "0 -1 -1" : "1 2 1");
            }
        }
    }

    private static String outlook(LearnedShapes x, String text) {
        type(x, text);
        StringBuilder s = new StringBuilder();
        for (int what = 0; what <= 4; what++) {
            s.append(what == 0 ? "" : " ").append(x.ifLearned(0, what));
        }
        return s.toString();
    }

    private static void promise17() {
        about = "17 ifLearned";
        LearnedShapes x = learnt("(A1B(A[1]C2)Dn)");
        same("the same", outlook(x, "(A1B(A[1]C2)Dn)"), "7 0 0 0 0");
        same("other kinds", outlook(x, "(A1.5BtD5)"), "4 3 1 3 0");
        same("new ones", outlook(x, "(A[1]B(B1)C[[]])"), "10 1 1 0 0");
        same("incomplete", outlook(x, "(A"), "-1 -1 -1 -1 -1");
        long digest = x.digest();
        x.ifLearned(0, 0);
        same("changes nothing", x.digest(), digest);
        x.set(1);
        same("refused", outlook(x, "(A[]B(B1))"), "8 1 1 0 1");
        same("refused for a new one", outlook(x, "(E[1,[]])"), "9 0 0 0 1");
        same("not refused", outlook(x, "(A'x')"), "7 1 0 0 0");
        same("no nodes", outlook(new LearnedShapes(), "(A1)"), "2 0 0 0 0");
        LearnedShapes y = learnt(WIDE);
        same("31", outlook(y, "(D(AnBnCnDnEnFn))"), "31 0 0 0 1");
        same("30", outlook(y, "(D(AnBnCnDnEn))"), "30 0 0 0 0");
        same("32 for a while", outlook(y, "(H[(AnBnCnDnEnFnGnHn),1])"), "26 0 0 0 0");
        refuses("ifLearned(2, 0)", INDEX, x, () -> x.ifLearned(2, 0));
        refuses("ifLearned(-1, 5)", INDEX, x, () -> x.ifLearned(-1, 5));
        refuses("ifLearned(0, 5)", ARGUMENT, x, () -> x.ifLearned(0, 5));
        refuses("ifLearned(0, -1)", ARGUMENT, x, () -> x.ifLearned(0, -1));
    }

    private static void promise18() {
        about = "18 covers";
        String[][] rows = {
            {"", "", "1 1"}, {"", "()", "0 1"}, {"(A1)", "(A1)", "1 1"}, {"(A1)", "(A2.5)", "0 1"},
            {"(At)", "(A'x')", "0 1"}, {"(A1)", "(A't')", "0 1"}, {"(A[])", "(A[1])", "0 1"},
            {"(A1)", "()", "0 0"}, {"(An)", "(A1)", "0 0"}, {"(A[1,n])", "(A[1])", "1 0"},
            {"(A[1,[]])", "(A[1])", "1 0"}, {"(A[1,[]])", "(A[n])", "0 0"},
            {"(A[1,[],n])", "(A[n])", "1 0"}, {"(A[(B1),()])", "(A[(B1)])", "1 0"},
            {"(A[(B1),()])", "(A[()])", "1 0"}, {"(A[(B1)])", "(A[(B1),()])", "0 1"},
            {"(A[(B1)])", "(A[(B1),(B2)])", "1 1"}, {"(A[(B1),(C1)])", "(A[(C1)])", "1 0"},
            {"(A[n,(B1)])", "(A[n])", "1 0"}, {"(A[(B(C1)),()])", "(A[(B())])", "0 0"},
            {"()", "()", "1 1"}, {"()", "(A1)", "0 0"}, {"(A(B(C[1])))", "(A(B(C[2])))", "1 1"},
            {"(A(B(C[1])))", "(A(B(C[1.5])))", "0 1"}, {"(A[[[n]]])", "(A[[[1]]])", "0 0"},
            {"(A[[[n,1]]])", "(A[[[1]]])", "1 0"}};
        for (String[] row : rows) {
            LearnedShapes x = both(row[0], row[1]);
            same(row[0] + " and " + row[1], x.covers(0) + " " + x.covers(1), row[2]);
            refuses("covers(2)", INDEX, x, () -> x.covers(2));
            refuses("covers(-1)", INDEX, x, () -> x.covers(-1));
        }
    }

    private static void promise19() {
        about = "19 ifJoined";
        same("none", new LearnedShapes().ifJoined(), 0);
        same("one", both("(A1B2)", "").ifJoined(), 3);
        same("both", both("(A1B(A1))", "(B(C1))").ifJoined(), 5);
        same("any", both("(A1B(A1))", "(B[1])").ifJoined(), 3);
        same("many", both(WIDE, "(D(AnBnCnDnEnFn)E(AnBnCnDnEnFn)F(AnBnCnDnEnFn))").ifJoined(), 45);
        LearnedShapes x = both("(A1)", "(B2)");
        long digest = x.digest();
        x.ifJoined();
        same("changes nothing", x.digest(), digest);
    }

    private static void promise20() {
        about = "20 sureShare";
        LearnedShapes x = learnt("(A1BnC[1,[]]D[2,n])", "(BtC[]D[])");
        same("share", x.sureShare(0), 3.0 / 7.0);
        same("no nodes", x.sureShare(1), 1.0);
        same("all", learnt("(A1)").sureShare(0), 1.0);
        refuses("sureShare(2)", INDEX, x, () -> x.sureShare(2));
        refuses("sureShare(-1)", INDEX, x, () -> x.sureShare(-1));
    }

    private static long dueDigest(LearnedShapes x, String buffer) {
        long hash = 2707;
        for (int what = 0; what <= 2; what++) {
            hash = 31 * hash + x.count(what);
        }
        for (int shape = 0; shape < 2; shape++) {
            for (int what = 0; what <= 5; what++) {
                hash = 31 * hash + x.shape(shape, what);
            }
            for (int node = 0; node < x.shape(shape, 1); node++) {
                for (int what = 0; what <= 9; what++) {
                    hash = 31 * hash + x.node(shape, node, what);
                }
            }
            for (int what = 0; what <= 2; what++) {
                hash = 31 * hash + x.fits(shape, what);
            }
            for (int what = 0; what <= 4; what++) {
                hash = 31 * hash + x.ifLearned(shape, what);
            }
            hash = 31 * hash + x.covers(shape);
            hash = 31 * hash + Double.doubleToLongBits(x.sureShare(shape));
        }
        hash = 31 * hash + x.ifJoined();
        for (int what = 0; what <= 8; what++) {
            hash = 31 * hash + x.document(what);
        }
        for (char c : buffer.toCharArray()) {
            hash = 31 * hash + c;
        }
        return hash;
    }

    private static void promise21() {
        about = "21 digest";
        LearnedShapes x = new LearnedShapes();
        same("new", x.digest(), dueDigest(x, ""));
        String[] texts = {"(A1BnC[1,[]])", "(A", "(B2)", "(A1)", "((", "(A(A1B2)B3)", "(A'x')"};
        for (String text : texts) {
            type(x, text);
            same(text, x.digest(), dueDigest(x, text));
            if (x.document(0) > 0) {
                x.learn(text.length() % 2);
                same("after " + text, x.digest(), dueDigest(x, ""));
            }
        }
        LearnedShapes y = both("(A(B1))", "(A1)");
        type(y, "(A(B(C1)))");
        same("for both shapes", y.digest(), dueDigest(y, "(A(B(C1)))"));
        sharesInDigest();
    }

    /** The program cannot ask the library for the bits of a share, so that many are tried. */
    private static void sharesInDigest() {
        for (int all = 1; all <= 17; all++) {
            int parts = all > 9 ? all - 2 : all - 1;
            for (int marked = 0; marked <= parts; marked++) {
                LearnedShapes x = new LearnedShapes();
                type(x, shareText(all - 1, marked)).learn(0);
                same(marked + " of " + all, x.sureShare(0), (all - marked) / (double) all);
                same("digest with it", x.digest(), dueDigest(x, ""));
            }
        }
        LearnedShapes y = learnt("(A1)", "()");
        same("digest of a half", y.digest(), dueDigest(y, ""));
    }

    private static String shareText(int parts, int marked) {
        StringBuilder s = new StringBuilder("(");
        int left = marked;
        int inner = Math.max(0, parts - 8);
        for (int i = 0; i < Math.min(parts, 8); i++) {
            s.append((char) ('A' + i));
            if (i == 0 && inner > 0) {
                s.append('(');
                for (int j = 0; j < inner; j++) {
                    s.append((char) ('A' + j)).append(left-- > 0 ? 'n' : 't');
                }
                s.append(')');
            } else {
                s.append(left-- > 0 ? 'n' : 't');
            }
        }
        return s.append(')').toString();
    }

    public static void main(String[] args) {
        promise1();
        promise2();
        promise3();
        promise4();
        promise5();
        promise6();
        promise7();
        promise8();
        promise9();
        promise10();
        promise11();
        promise12();
        promise13();
        promise14();
        promise15();
        promise16();
        promise17();
        promise18();
        promise19();
        promise20();
        promise21();
        System.out.println("PromiseTest: " + passed + " answers as due, " + failed + " not");
        if (failed != 0) {
            System.exit(1);
        }
    }
}
