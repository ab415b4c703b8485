import java.io.IOException;

/** Each sentence of the document that names an edge of the shapes and of learning. */
public final class LearnEdgeTest {
    /** 28 nodes: three groups with all letters. */
    private static final String WIDE =
            "0(A(AnBnCnDnEnFnGnHn)B(AnBnCnDnEnFnGnHn)C(AnBnCnDnEnFnGnHn))";
    private static final String[] VALUES = {"n", "t", "7", "7.5", "'x'", "[]", "()"};
    /** The kind of two values, for each kind a row; the last one is that of any. */
    private static final int[][] JOINED = {
        {0, 1, 2, 3, 4, 5, 6}, {1, 1, 4, 4, 4, 7, 7}, {2, 4, 2, 3, 4, 7, 7},
        {3, 4, 3, 3, 4, 7, 7}, {4, 4, 4, 4, 4, 7, 7}, {5, 7, 7, 7, 7, 5, 7},
        {6, 7, 7, 7, 7, 7, 6}, {7, 7, 7, 7, 7, 7, 7}};

    private static Edges edges;

    private static void nodes(String words, int what, String due) {
        edges.same(words, "property " + what + " of all nodes", x -> Edges.nodes(x, 0, what), due);
    }

    private static void node(String words, int node, int what, int due) {
        edges.same(words, "node(0, " + node + ", " + what + ")", x -> x.node(0, node, what), due);
    }

    private static void size(String words, int due) {
        edges.same(words, "nodes", x -> x.shape(0, 1), due);
    }

    private static void learns(String words, String text, int due) {
        edges.same(words, "learn " + text, x -> Edges.type(x, text).learn(0), due);
    }

    private static void refuses(String words, String text) {
        edges.refused(words + " <" + text, "learn(0)", x -> x.learn(0), Edges.STATE);
    }

    private static void theTree() {
        edges.says("There are two shapes, numbered 0 and 1.");
        edges.same("0(A1) 1(A1B2)", "nodes", x -> x.shape(0, 1) * 10 + x.shape(1, 1), 23);
        edges.same("1(A1)", "nodes", x -> x.shape(0, 1) * 10 + x.shape(1, 1), 2);
        edges.says("A shape is a tree of nodes, at first none.");
        edges.same("", "nodes", x -> x.shape(0, 1) * 10 + x.shape(1, 1), 0);
        edges.refused("", "node(0, 0, 0)", x -> x.node(0, 0, 0), Edges.INDEX);
        edges.says("a node can have a child for each letter, \"A\" to \"H\" (for the parts of"
                + " groups), and one for the values of rows");
        nodes("0(AnBnCnDnEnFnGnHn)", 1, "-1 0 1 2 3 4 5 6 7");
        nodes("0(A[n,1,2.5,t])", 1, "-1 0 8");
        nodes("0(A[(A1),(H1),(A2)])", 1, "-1 0 8 0 7");
        nodes("0(A[[[1,2],[3]],[]])", 1, "-1 0 8 8 8");
        edges.says("They are numbered from 0, each ahead of its children, and those in the order of"
                + " letters, with the child for rows behind all others; all that is below a child"
                + " comes ahead of the next child.");
        String first = "0(H1B(C1A1)A[[t]])";
        nodes(first, 1, "-1 0 8 8 1 0 2 7");
        nodes(first, 2, "-1 0 1 2 0 4 4 0");
        nodes(first, 3, "0 1 2 3 1 2 2 1");
        nodes(first + " 0(G1B(B1))", 1, "-1 0 8 8 1 0 1 2 6 7");
        nodes(first + " 0(G1B(B1))", 2, "-1 0 1 2 0 4 4 4 0 0");
        nodes("0(D1) 0(C1) 0(B1) 0(A1)", 4, "4 1 1 1 1");
        nodes("0(D1) 0(C1) 0(B1) 0(A1)", 8, "1 4 3 2 1");
        farBehindStays();
    }

    /** In a shape that is nearly full: nodes come and go far behind, ahead of the last one. */
    private static void farBehindStays() {
        String last = WIDE + " 0(H1.5)";
        String letters = " 0 1 2 3 4 5 6 7";
        String nothings = " 0 0 0 0 0 0 0 0";
        String three = "-1 0" + letters + " 1" + letters + " 2" + letters;
        nodes(last + " 0(E'x')", 1, three + " 4 7");
        nodes(last + " 0(E'x')", 0, "6 6" + nothings + " 6" + nothings + " 6" + nothings + " 4 3");
        nodes(last + " 0(E'x')", 8, "1" + " 1".repeat(27) + " 3 2");
        nodes(last + " 0(C1)", 1, "-1 0" + letters + " 1" + letters + " 2 7");
        nodes(last + " 0(C1)", 0, "6 6" + nothings + " 6" + nothings + " 7 3");
        nodes(last + " 0(C1)", 8, "1" + " 1".repeat(18) + " 3 2");
    }

    private static void thirtyNodes() {
        edges.says("A shape has at most 30 nodes.");
        size(WIDE, 28);
        learns(WIDE, "(D1E1)", 30);
        learns(WIDE + " 0(D1)", "(E1)", 30);
        learns(WIDE + " 0(D1E1)", "(D1E1A(Hn))", 30);
        refuses(WIDE + " 0(D1E1)", "(F1)");
        refuses(WIDE + " 0(D1)", "(E1F1)");
        refuses(WIDE, "(D1E1F1)");
        refuses(WIDE, "(D(A(B1)))");
        edges.says("It is refused if there would be more than 30 nodes at the end");
        learns(WIDE + " 0(D1E1)", "(F1A1)", 23);
        learns(WIDE + " 0(D1E1)", "(F1G1HnA[])", 25);
        learns(WIDE, "(D[(AnBnCnDnEnFnGnHn),1])", 30);
        refuses(WIDE + " 0(D1)", "(E[(AnBnCnDnEnFnGnHn),1])");
        edges.same(WIDE + " 1" + WIDE.substring(1), "30 for each shape", x ->
                Edges.type(x, "(D1E1)").learn(0) + Edges.type(x, "(F1G1)").learn(1), 60);
        edges.same(WIDE + " 0(D1E1) f0", "learn", x -> Edges.type(x, "(F1)").learn(0), 2);
    }

    private static void numbersOfNodes() {
        edges.says("(the documents that a shape has learnt are numbered from 1)");
        nodes("0(A1)", 8, "1 1");
        nodes("0() 0(A1)", 8, "1 2");
        nodes("1() 0(A1)", 8, "1 1");
        nodes("0() 0() f0 0(A1)", 8, "1 1");
        nodes("0() 0() u 0(A1)", 8, "1 2");
        edges.says("the number of the document in which its kind became what it is");
        String[] texts = {"(An)", "(An)", "(A1)", "(A2)", "(A1.5)", "(A3)", "(At)", "(A1.5)",
            "(An)", "(A[])", "(A1)", "(A())"};
        int[] due = {1, 1, 3, 3, 5, 5, 7, 7, 7, 10, 10, 10};
        StringBuilder words = new StringBuilder();
        for (int i = 0; i < texts.length; i++) {
            words.append(" 0").append(texts[i]);
            node(words.toString(), 1, 8, due[i]);
            node(words.toString(), 0, 8, 1);
        }
        nodes("0(A[1]) 0(A[1.5,'a',t])", 8, "1 1 2");
        nodes("0(A[1]) 0(A[1.5,'a']) 0(A[1])", 8, "1 1 2");
        nodes("0(A(B1)) 0(A(BnC1)) 0(A(B2.5))", 8, "1 1 3 2");
    }

    private static void joinedKinds() {
        edges.says("like ones stay so; nothing and another one become the other one; two unlike"
                + " ones of flag, whole, decimal and word become decimal, if both are whole or"
                + " decimal, otherwise word; all others become any.");
        for (int one = 0; one <= 7; one++) {
            String first = one == 7 ? "0(A1) 0(A[])" : "0(A" + VALUES[one] + ")";
            int documents = one == 7 ? 2 : 1;
            for (int other = 0; other <= 6; other++) {
                String words = first + " 0(A" + VALUES[other] + ")";
                int due = JOINED[one][other];
                node(words, 1, 0, due);
                node(words, 1, 8, due == one ? documents : documents + 1);
                if (one < 7) {
                    nodes("0(A[" + VALUES[one] + "," + VALUES[other] + "])", 0, "6 5 " + due);
                    nodes("0(A[" + VALUES[one] + "]) 0(A[" + VALUES[other] + "])", 0, "6 5 " + due);
                }
            }
        }
    }

    private static void showing() {
        edges.says("its number of values becomes 1 more (and that of groups, if it is one)");
        String words = "0(A1) 0() 0(An) 0(A()) 0(A[]) 0(A(B1))";
        nodes(words, 4, "6 5");
        nodes(words, 6, "6 2");
        nodes("0(A[(),n,(),()])", 4, "1 1 4");
        nodes("0(A[(),n,(),()])", 6, "1 0 3");
        nodes("0(A[])", 4, "1 1");
        nodes("0()", 6, "1");
        edges.says("if the value is nothing, it is marked");
        nodes("0(AnB1C[n]D[1]E())", 5, "0 1 0 0 1 0 0 0");
        nodes("0(A1B1) 0(AnB2) 0(A1B3)", 5, "0 1 0");
        nodes("0(A1) 0()", 5, "0 0");
        edges.says("(the first value that it is shown makes its kind what the value is)");
        nodes("0(AnBtC1D1.5E'a'F[]G())", 0, "6 0 1 2 3 4 5 6");
        nodes("0(A[n])", 0, "6 5 0");
        nodes("0() 0(At)", 0, "6 1");
        edges.says("a child that is not there yet is made");
        nodes("0() 0(B1) 0(B(C1)A1)", 1, "-1 0 1");
        nodes("0(B()) 0(B(C1)) 0(A1)", 1, "-1 0 1 2");
        nodes("0(A[]) 0(An) 0(A[1])", 1, "-1 0 8");
        size("0()", 1);
        size("0(A())", 2);
        size("0(A[])", 2);
        size("0(A[]) 0(An)", 2);
        size("0(A[1]) 0(An)", 3);
        size("0(A(B1)) 0(An)", 3);
        size("0(An) 0(A(B1))", 3);
    }

    private static void any() {
        edges.says("If it is any then, all its children are gone, and it gets none any more (its"
                + " numbers and its mark go on).");
        nodes("0(A(B(C1)D2)E3) 0(A[])", 1, "-1 0 4");
        nodes("0(A(B(C1)D2)E3) 0(A(B[]))", 1, "-1 0 1 3 4");
        nodes("0(A(B(C1)D2)E3) 0(A(B7))", 0, "6 6 7 2 2");
        nodes("0(A[[1]]B2) 0(A())", 1, "-1 0 1");
        nodes("0(A[[1]]B2) 0(A[t])", 0, "6 5 7 2");
        size("0(A[1]) 0(A(B1C2))", 2);
        size("0(A(B1C2)) 0(A[1])", 2);
        size("0(A1) 0(A[1])", 2);
        size("0(A1) 0(A(B1))", 2);
        size("0(A1) 0(A()) 0(A(B1)) 0(A[1]) 0(An)", 2);
        size("0(A[(B1),[1],(C1),[2]])", 3);
        size("0(A[[1],(B1)])", 3);
        size("0(A[(B1),n,(C1)])", 5);
        String words = "0(A1) 0(A()) 0(A(B1)) 0(An) 0(A[1]) 0(A'x')";
        node(words, 1, 0, 7);
        node(words, 1, 4, 6);
        node(words, 1, 5, 1);
        node(words, 1, 6, 2);
        node(words, 1, 8, 2);
        node(words, 1, 9, 0);
        nodes("0(An) 0(A1) 0(A())", 5, "0 1");
    }

    private static void missingParts() {
        edges.says("A part can be missing if a child for a letter was shown fewer values than its"
                + " parent was shown groups.");
        node("0(A1)", 1, 7, 0);
        node("0(A1) 0()", 1, 7, 1);
        node("0() 0(A1)", 1, 7, 1);
        node("0() 0(A1) 0(A1) 0(A1)", 1, 7, 1);
        node("0(A1) 0(An)", 1, 7, 0);
        node("0(An) 0(An)", 1, 7, 0);
        node("0(A1) 0(A()) 0(A[])", 1, 7, 0);
        node("0(A1) 0(A()) 0()", 1, 7, 1);
        node("0()", 0, 7, 0);
        nodes("0(A(B1)) 0()", 7, "0 1 0");
        nodes("0(A(B1)) 0(A())", 7, "0 0 1");
        nodes("0(A(B1)) 0(An)", 7, "0 0 0");
        nodes("0(An) 0(A(B1))", 7, "0 0 0");
        nodes("0(A[(B1),(B2)])", 7, "0 0 0 0");
        nodes("0(A[(B1),n])", 7, "0 0 0 0");
        nodes("0(A[(B1),()])", 7, "0 0 0 1");
        nodes("0(A[(),(B1)])", 7, "0 0 0 1");
        nodes("0(A[1]) 0(A[])", 7, "0 0 0");
        nodes("0(A[]) 0(A[]) 0(A[[1]])", 7, "0 0 0 0");
        edges.same("0(A1) 0() u", "undone", x -> x.node(0, 1, 7), 0);
        edges.says("(How often a node was shown a group is counted, too.)");
        nodes("0(A(B1)C1) 0(AnC()) 0(A())", 6, "3 2 0 1");
    }

    private static void refusedForAny() {
        edges.says("with setting 0 as 1 also if a node would become any by it");
        refuses("0(A1) s1", "(A[])");
        refuses("0(A1) s1", "(A())");
        refuses("0(A[]) s1", "(A())");
        refuses("0(A[]) s1", "(A'x')");
        refuses("0(A()) s1", "(At)");
        refuses("0(A(B1)) s1", "(A(B[]))");
        refuses("0(A[1]) s1", "(A[2,(B1)])");
        refuses("0(AnB1) 0(A1) s1", "(B2A[])");
        refuses("s1", "(A[1,[]])");
        refuses("0(A1) s1", "(B[(),[]])");
        refuses("0(A1B1) 0(A[]) s1", "(A()B())");
        refuses("0(A(B1)) s1 s1", "(A[])");
        refuses("0(A1) s1 s0 s1", "(A[])");
        refuses(WIDE + " 0(D1E1) s1", "(F1A1)");
        refuses(WIDE + " 0(D1E1) s1", "(F1)");
        learns("0(A1) s1", "(A'x')", 2);
        learns("0(A1) s1", "(An)", 2);
        learns("0(An) s1", "(A[1])", 3);
        learns("0(A[1]) s1", "(A[])", 3);
        learns("0(A1) 0(A[]) s1", "(A())", 2);
        learns("0(A1) 0(A[]) s1", "(A(B[1,[]]))", 2);
        learns("0(A[1,[]]) s1", "(A[(B[1,n]),[[]]])", 3);
        learns("s1", "(A[1,1.5,t,'x',n])", 3);
        edges.same("0(A1) 1(A[]) s1", "the other one alone would", x ->
                Edges.type(x, "(A[])").learn(1), 2);
        edges.says("0: whether documents that would make a node any are refused (1) or not (0),"
                + " at first 0.");
        edges.same("", "count(0)", x -> x.count(0), 0);
        learns("0(A1)", "(A[])", 2);
        learns("0(A1) s1 s0", "(A[])", 2);
        learns("0(A1) s1 u", "(A[])", 2);
        edges.same("s1", "count(0)", x -> x.count(0), 1);
        edges.same("s1 f0 w j0", "count(0)", x -> x.count(0), 1);
        edges.same("s1 s0", "count(0)", x -> x.count(0), 0);
    }

    private static void numbersAreInts() {
        edges.says("go round beyond them: 2147483647 and 1 are -2147483648.)");
        String grown = Edges.grown("(A1)");
        nodes(grown, 4, "2147483647 2147483647");
        nodes(grown, 6, "2147483647 0");
        nodes(grown, 8, "1 1");
        edges.same(grown, "documents", x -> x.shape(0, 0), 2147483647);
        nodes(grown + " 0(A1)", 4, "-2147483648 -2147483648");
        nodes(grown + " 0(A1)", 6, "-2147483648 0");
        nodes(grown + " 0(A1)", 7, "0 0");
        edges.same(grown + " 0(A1)", "documents", x -> x.shape(0, 0), -2147483648);
        edges.same(grown + " 0(A1) 0(A1)", "documents", x -> x.shape(0, 0), -2147483647);
        nodes(grown + " 0(A1.5B1)", 8, "1 -2147483648 -2147483648");
        nodes(grown + " 0() 0(A[])", 8, "1 -2147483647");
        nodes(grown + " 0()", 4, "-2147483648 2147483647");
        // as ints 2147483647 is not fewer than -2147483648
        nodes(grown + " 0()", 7, "0 0");
        nodes(grown + " 0(A1) 0()", 7, "0 1");
        String rows = Edges.grown("(A[1])");
        nodes(rows, 4, "2147483647 2147483647 2147483647");
        nodes(rows + " 0(A[1,2,3])", 4, "-2147483648 -2147483648 -2147483646");
        nodes(rows + " 0(A[1,2,3])", 7, "0 0 0");
        String groups = Edges.grown("(A())");
        nodes(groups, 6, "2147483647 2147483647");
        nodes(groups + " 0(A())", 6, "-2147483648 -2147483648");
        nodes(groups + " 0(A1)", 6, "-2147483648 2147483647");
        edges.same(grown + " <(A1.5)", "ifLearned", x -> Edges.ifLearned(x, 0), "2 1 0 0 0");
    }

    private static void whatItReturns() {
        edges.says(2, "Lets a shape learn the document in the buffer, and clears the buffer."
                + " Undoable.");
        edges.same("<(A1)", "the buffer then", x -> x.learn(0) * 10 + x.count(1), 20);
        edges.same("<(A1)", "documents of both", x -> x.learn(1) * 100 + x.shape(1, 0) * 10
                + x.shape(0, 0), 210);
        edges.undoable("0(A1) 1() s1 <(A1.5B2)", "learn(0)", x -> x.learn(0));
        edges.undoable("0(A1) 1() s1 <(A1)", "learn(1)", x -> x.learn(1));
        edges.says(2, "Returns how many nodes it has then.");
        learns("", "()", 1);
        learns("0()", "()", 1);
        learns("0(A1B2)", "(C1D[1])", 6);
        learns("0(A(B1C2D3))", "(A1)", 2);
        edges.says(2, "Throws `IllegalArgumentException` if the buffer is not a complete document"
                + " as a text");
        String[] texts = {"", "(", "(A", "(A1", "(A-0)", "(A1))", "()()", "n", "[]", "(A1A1)"};
        for (String text : texts) {
            edges.refused("0(A1) <" + text, "learn(0)", x -> x.learn(0), Edges.ARGUMENT);
            edges.refused("0(A1) <" + text, "learn(1)", x -> x.learn(1), Edges.ARGUMENT);
        }
        edges.says(2, "Throws `IllegalStateException` if it is refused");
        refuses("1() " + WIDE + " 0(D1E1)", "(G(A1))");
        refuses("1() 0(A1) s1", "(A[])");
    }

    public static void main(String[] args) throws IOException {
        edges = new Edges("LearnEdgeTest");
        theTree();
        thirtyNodes();
        numbersOfNodes();
        joinedKinds();
        showing();
        any();
        missingParts();
        refusedForAny();
        numbersAreInts();
        whatItReturns();
        edges.end();
    }
}
