import java.io.IOException;

/** Each sentence of the document that names an edge of joining and of covering. */
public final class JoinEdgeTest {
    /** 28 nodes: three groups with all letters. */
    private static final String WIDE =
            "(A(AnBnCnDnEnFnGnHn)B(AnBnCnDnEnFnGnHn)C(AnBnCnDnEnFnGnHn))";
    private static final String OTHER_WIDE =
            "(F(AnBnCnDnEnFnGnHn)G(AnBnCnDnEnFnGnHn)H(AnBnCnDnEnFnGnHn))";
    private static final String[] VALUES = {"n", "t", "7", "7.5", "'x'", "[]", "()"};
    private static final int ANY = 7;
    /** The kind of two values, that of any too: for each kind a row. */
    private static final int[][] JOINED = {
        {0, 1, 2, 3, 4, 5, 6, 7}, {1, 1, 4, 4, 4, 7, 7, 7}, {2, 4, 2, 3, 4, 7, 7, 7},
        {3, 4, 3, 3, 4, 7, 7, 7}, {4, 4, 4, 4, 4, 7, 7, 7}, {5, 7, 7, 7, 7, 5, 7, 7},
        {6, 7, 7, 7, 7, 7, 6, 7}, {7, 7, 7, 7, 7, 7, 7, 7}};

    private static Edges edges;

    private static void nodes(String words, int shape, int what, String due) {
        edges.same(words, "property " + what + " of all nodes of " + shape,
                x -> Edges.nodes(x, shape, what), due);
    }

    private static void documents(String words, int shape, int due) {
        edges.same(words, "shape(" + shape + ", 0)", x -> x.shape(shape, 0), due);
    }

    private static void joins(String words, int shape, int due) {
        edges.same(words, "ifJoined()", x -> x.ifJoined(), due);
        edges.same(words, "join(" + shape + ")", x -> x.join(shape), due);
    }

    /** The words for a shape whose part A has the kind: any is made by two documents. */
    private static String ofKind(int shape, int kind) {
        return kind == ANY ? shape + "(A1) " + shape + "(A[])" : shape + "(A" + VALUES[kind] + ")";
    }

    private static void sums() {
        edges.says("a node has the sum of both numbers of values and of groups, the mark if one has"
                + " it, and the joined kind");
        String words = "0(A1) 0(AnB()) 1(A2) 1(A3B()) 1(B(C1)) j0";
        nodes(words, 0, 4, "5 4 3 1");
        nodes(words, 0, 5, "0 1 0 0");
        nodes(words, 0, 6, "5 0 3 0");
        nodes(words, 0, 7, "0 1 1 1");
        nodes("0(A1B1CnDn) 1(A1BnC1Dn) j0", 0, 5, "0 0 1 1 1");
        nodes("0(A1B1CnDn) 1(A1BnC1Dn) j1", 1, 5, "0 0 1 1 1");
        for (int own = 0; own <= ANY; own++) {
            for (int other = 0; other <= ANY; other++) {
                String both = ofKind(0, own) + " " + ofKind(1, other) + " j0";
                int due = JOINED[own][other];
                int ownLast = own == ANY ? 2 : 1;
                int otherLast = other == ANY ? 2 : 1;
                nodes(both, 0, 0, "6 " + due);
                nodes(both, 0, 8, "1 " + (due == own ? ownLast : ownLast + otherLast));
            }
        }
    }

    private static void documentNumbers() {
        edges.says("the number of its document is that of its own shape, if the kind stays what it"
                + " was there, otherwise the number of documents of the own shape plus the number"
                + " that the node has in the other one");
        nodes("0(A1) 0(A1.5) 0(A2) 1(A1) j0", 0, 8, "1 2");
        nodes("0(A1) 0(A1.5) 0(A2) 1(A1) 1(A't') j0", 0, 8, "1 5");
        nodes("0(A1) 0(A1) 1() 1(A2.5) 1(A2.5) j0", 0, 8, "1 4");
        nodes("0(A1) 0(A1) 1() 1(A2.5) 1(A2.5) j1", 1, 8, "1 2");
        nodes("0(At) 1() 1() 1(A1) j0", 0, 8, "1 4");
        nodes("0(A1) 1(A1) 1(A2) 1(An) j0", 0, 8, "1 1");
        nodes("0(An) 0(An) 1(A1) j0", 0, 8, "1 3");
        nodes("0(A1) 1(A[]) 1(A[]) j0 j0", 0, 8, "1 2");
        edges.says("The number of documents becomes the sum of both.");
        documents("0(A1) 0() 1() j0", 0, 3);
        documents("0(A1) 0() 1() j0", 1, 1);
        documents("0(A1) 0() 1() j1", 1, 3);
        documents("0(A1) 0() 1() j0 j1 j0", 0, 7);
        documents("j0", 0, 0);
        documents("0() j0", 0, 1);
        documents("1() 1() j0", 0, 2);
    }

    private static void children() {
        edges.says("If it is any, it has no children");
        nodes("0(A(B1)C1) 1(A[1]) j0", 0, 0, "6 7 2");
        nodes("0(A(B1)C1) 1(A[1]) j0", 0, 1, "-1 0 2");
        nodes("0(A[1]) 1(A(B1)) j0", 0, 0, "6 7");
        nodes("0(A1) 1(A(B1)C[1]) j0", 0, 0, "6 7 5 2");
        nodes("0(A(B(C1)D2)) 1(A(B[1])) j0", 0, 1, "-1 0 1 3");
        nodes("0(A1) 0(A[]) 1(A(B1)) 1(An) j0", 0, 4, "4 4");
        nodes("0(A1) 0(A[]) 1(A(B1)) 1(An) j0", 0, 5, "0 1");
        nodes("0(A1) 0(A[]) 1(A(B1)) 1(An) j0", 0, 6, "4 1");
        nodes("0(A(B1)) 1(A1) 1(A[]) j0", 0, 8, "1 3");
        nodes("0(A(B1)) 1(A1) 1(A[]) j0 0(A(B1))", 0, 1, "-1 0");
        edges.says("otherwise it has all children that one or both have, those that only one has as"
                + " they are there (with the number of their documents as told for a kind that does"
                + " not stay, if they come from the other one)");
        String words = "0(A(B1C2)D3) 1(A(C'x'E(F1))G[t]) j0";
        nodes(words, 0, 0, "6 6 2 4 6 2 2 5 1");
        nodes(words, 0, 1, "-1 0 1 2 4 5 3 6 8");
        nodes(words, 0, 4, "2 2 1 2 1 1 1 1 1");
        nodes(words, 0, 6, "2 2 0 0 1 0 0 0 0");
        nodes(words, 0, 7, "0 0 1 0 1 0 1 1 0");
        nodes(words, 0, 8, "1 1 1 2 2 2 1 2 2");
        nodes("0() 0(A1) 1() 1() 1(A1B(C[n])) 1(A1.5) j0", 0, 8, "1 6 5 5 5");
        nodes("0() 0(A1) 1() 1() 1(A1B(C[n])) 1(A1.5) j0", 0, 5, "0 0 0 0 1");
        nodes("0(A(B1)) 1(An) j0", 0, 7, "0 0 0");
        nodes("0(A(B1)) 1(An) j0", 0, 8, "1 1 1");
        nodes("0(An) 1(A(B1)) j0", 0, 8, "1 2 2");
        nodes("0(An) 1(A(B1)) j0", 0, 7, "0 0 0");
        nodes("0(A[1]) 1(A[]) j0", 0, 4, "2 2 1");
        nodes("0(A[]) 1(A[1]) j0", 0, 8, "1 1 2");
        nodes("0(A(B(C(D1)))) 1(A(B(C(E1)))) j0", 0, 1, "-1 0 1 2 3 4");
        nodes("0(A(B(C(D1)))) 1(A(B(C(D1.5)))) j0", 0, 8, "1 1 1 1 2");
        nodes("0(A1) 1(B1) 1(B[]) j0", 0, 0, "6 2 7");
        nodes("0(A1) 1(B1) 1(B[]) j0", 0, 8, "1 1 3");
    }

    private static void shapesWithoutNodes() {
        edges.says(3, "Joins a shape with the other one, which stays. Undoable.");
        for (int what = 0; what <= 9; what++) {
            String due = Edges.nodes(Edges.made("1(A1B(C[n])) 1(A1.5)"), 1, what);
            nodes("0(A[1]B[]) 1(A1B(C[n])) 1(A1.5) j0", 1, what, due);
            nodes("1(A1B(C[n])) 1(A1.5) j0", 0, what, due);
            nodes("1(A1B(C[n])) 1(A1.5) j1", 1, what, due);
        }
        joins("", 0, 0);
        joins("", 1, 0);
        joins("0()", 0, 1);
        joins("0()", 1, 1);
        joins("1(A1)", 0, 2);
        edges.same("0(A1) 1(B1) <(A", "the buffer", x -> x.join(0) * 10 + x.count(1), 32);
        edges.undoable("0(A1) 1(B1) s1 <(A", "join(0)", x -> x.join(0));
        edges.undoable("0(A1) 1(B1) s1 <(A", "join(1)", x -> x.join(1));
        edges.undoable("", "join(1)", x -> x.join(1));
        edges.same("0(A1) 1(A[]) s1", "the setting does not matter", x -> x.join(0), 2);
    }

    private static void oneAfterTheOther() {
        edges.says("So joining leads to the same kinds as learning all documents one after the"
                + " other.");
        String[] texts = {"(A1B(C1)D[1])", "(AnB(CtE[])D[n,1.5])", "(A2.5BnD[])", "()", "(D[])",
            "(A'x'D[1,'a'])", "(B[1])", "(D[[1]])", "(A[(B1),(C1)])", "(A[(B1.5),()])", "(AnBnDn)"};
        for (int split = 0; split <= texts.length; split++) {
            for (int first = 0; first < texts.length; first++) {
                StringBuilder apart = new StringBuilder();
                StringBuilder one = new StringBuilder();
                for (int i = 0; i < texts.length; i++) {
                    String text = texts[(first + i) % texts.length];
                    apart.append(i < split ? " 0" : " 1").append(text);
                    one.append(" 0").append(text);
                }
                LearnedShapes due = Edges.made(one.toString());
                for (int what = 0; what <= 7; what++) {
                    nodes(apart + " j0", 0, what, Edges.nodes(due, 0, what));
                }
            }
        }
    }

    private static void thirtyNodes() {
        edges.says(3, "Returns how many nodes it has then.");
        joins("0(A1) 1(B1C1)", 0, 4);
        joins("0" + WIDE + " 1(D1E1)", 0, 30);
        joins("0" + WIDE + " 1(D1E1)", 1, 30);
        joins("0" + WIDE + " 0(D1E1) 1" + WIDE + " 1(D1E1)", 0, 30);
        joins("0" + WIDE + " 0(D1E1) 1(A1F1G1H1)", 0, 25);
        edges.says(3, "Throws `IllegalStateException` if it would have more than 30 nodes");
        String[] many = {"0" + WIDE + " 1(D1E1F1)", "0" + WIDE + " 0(D1E1) 1(F1)",
            "0" + WIDE + " 1" + OTHER_WIDE, "0" + WIDE + " 0(D1E1) 1" + OTHER_WIDE + " 1(D1E1)"};
        for (String words : many) {
            edges.refused(words, "join(0)", x -> x.join(0), Edges.STATE);
            edges.refused(words + " s1 <(A1)", "join(1)", x -> x.join(1), Edges.STATE);
            edges.refused(words, "join(2)", x -> x.join(2), Edges.INDEX);
            edges.refused(words, "join(-1)", x -> x.join(-1), Edges.INDEX);
        }
        edges.says(19, "(whether more than 30 does not matter)");
        edges.same("0" + WIDE + " 1(D1E1F1)", "ifJoined()", x -> x.ifJoined(), 31);
        edges.same("1" + WIDE + " 0(D1E1F1)", "ifJoined()", x -> x.ifJoined(), 31);
        edges.same("0" + WIDE + " 1" + OTHER_WIDE, "ifJoined()", x -> x.ifJoined(), 55);
        String most = "0" + WIDE + " 0(D(A1)) 1" + OTHER_WIDE + " 1(E(A1))";
        edges.same(most, "ifJoined()", x -> x.ifJoined(), 59);
        edges.same(most + " w", "ifJoined()", x -> x.ifJoined(), 59);
        edges.same("", "ifJoined()", x -> x.ifJoined(), 0);
        edges.same("1()", "ifJoined()", x -> x.ifJoined(), 1);
        edges.looks(most, "ifJoined()", x -> x.ifJoined());
    }

    private static void numbersAreInts() {
        edges.says("(Numbers of values, of groups and of documents are ints, and go round beyond"
                + " them: 2147483647 and 1 are -2147483648.)");
        String grown = Edges.grown("(A1)");
        documents(grown + " 1(A1) j0", 0, -2147483648);
        documents(grown + " 1(A1) j1", 1, -2147483648);
        documents(grown + " 1(A1) 1(A1) j0", 0, -2147483647);
        documents(grown + " j1 j0", 0, -2);
        nodes(grown + " 1(A1) j0", 0, 4, "-2147483648 -2147483648");
        nodes(grown + " 1(A1) j0", 0, 6, "-2147483648 0");
        nodes(grown + " 1(A1) j0", 0, 7, "0 0");
        nodes(grown + " j1 j0", 0, 4, "-2 -2");
        nodes(grown + " 1() j0", 0, 4, "-2147483648 2147483647");
        // as ints 2147483647 is not fewer than -2147483648
        nodes(grown + " 1() j0", 0, 7, "0 0");
        nodes(grown + " 1(A1.5B1) j0", 0, 8, "1 -2147483648 -2147483648");
        nodes(grown + " 1(A1.5B1) j0", 0, 4, "-2147483648 -2147483648 1");
        nodes(grown + " 1(B1) 1(A'x') j0", 0, 8, "1 -2147483647 -2147483648");
        nodes(grown + " 1(A1.5) j1", 1, 8, "1 1");
        nodes(grown + " 0(A1.5) 1(A1) 1(A1) j1", 1, 8, "1 -2147483646");
        String rows = Edges.grown("(A[1])");
        nodes(rows + " 1(A[1,n]) j0", 0, 4, "-2147483648 -2147483648 -2147483647");
        String groups = Edges.grown("(A())");
        nodes(groups + " 1(A()) j0", 0, 6, "-2147483648 -2147483648");
        nodes(groups + " j1 j0", 0, 6, "-2 -2");
        String halves = "0(A1) 0()" + " f1 j1 j0".repeat(30);
        nodes(halves, 0, 4, "-2147483648 1073741824");
        nodes(halves, 0, 7, "0 0");
        nodes(halves + " f1 j1 j0", 0, 4, "0 -2147483648");
        nodes(halves + " f1 j1 j0", 0, 7, "0 1");
        edges.same(halves + " f1 j1 j0", "shape(0, 1)", x -> x.shape(0, 1), 2);
        documents(halves + " f1 j1 j0", 0, 0);
    }

    private static void covers(String words, int first, int second) {
        edges.same(words, "covers(0)", x -> x.covers(0), first);
        edges.same(words, "covers(1)", x -> x.covers(1), second);
        edges.same(words + " w", "covers(0)", x -> x.covers(0), second);
        edges.looks(words, "covers(0)", x -> x.covers(0));
    }

    private static void coveredKinds() {
        edges.says("A node covers another one if the kinds joined are its own kind");
        for (int own = 0; own <= ANY; own++) {
            for (int other = 0; other <= ANY; other++) {
                String words = ofKind(0, own) + " 0(An) " + ofKind(1, other);
                int due = JOINED[own][other] == own ? 1 : 0;
                edges.same(words, "covers(0)", x -> x.covers(0), due);
                edges.same(words + " w", "covers(1)", x -> x.covers(1), due);
            }
        }
        edges.says("it is marked if the other one is");
        covers("0(A1) 1(A1) 1(An)", 0, 1);
        covers("0(A1) 0(An) 1(A1) 1(An)", 1, 1);
        covers("0(A1) 1(An)", 0, 0);
        covers("0(A1) 0(An) 1(An)", 1, 0);
        covers("0(A1) 0(A[]) 1(An)", 0, 0);
        covers("0(A1) 0(A[]) 0(An) 1(An)", 1, 0);
        covers("0(A[1]) 1(A[1,n])", 0, 1);
    }

    private static void coveredChildren() {
        edges.says("unless it is any, for each child of the other one it has a child that covers"
                + " it");
        covers("0(A1) 1(A1B1)", 0, 0);
        covers("0(A1) 0(A1B1) 1(A1)", 1, 0);
        covers("0(A1) 0(A1B1) 1(A1C1)", 0, 0);
        covers("0(A1B1) 1(A1B1.5)", 0, 1);
        covers("0(A[]) 1(A[1])", 0, 1);
        covers("0(A[1]) 1(A[t])", 0, 0);
        covers("0(A[(B1)]) 1(A[(B1.5)])", 0, 1);
        covers("0(A(B(C(D1)))) 1(A(B(C(D1))))", 1, 1);
        covers("0(A(B(C(D1)))) 1(A(B(C(Dt))))", 0, 0);
        covers("0(A(B(C(D1)))) 1(A(B(C(D't'))))", 0, 1);
        covers("0(A(B(C(D1)))) 1(A(B(C(D1.5))))", 0, 1);
        covers("0(A[[[1]]]) 1(A[[[n,1]]])", 0, 1);
        covers("0(A1) 0(A[]) 1(A(B(C1)))", 1, 0);
        covers("0(A1) 0(A[]) 1(A[n])", 1, 0);
        edges.says("if the other one is a group, each of its own children for letters can be"
                + " missing, or is one that the other one has, too, and that cannot be missing"
                + " there");
        covers("0(A1) 1()", 0, 0);
        covers("0(A1) 0() 1()", 1, 0);
        covers("0(A1) 0() 1(A1)", 1, 0);
        covers("0(A1) 1(A1) 1()", 0, 1);
        covers("0(A1) 0() 1(A1) 1()", 1, 1);
        covers("0(H1) 1()", 0, 0);
        covers("0(H1) 1(H1) 1()", 0, 1);
        covers("0(A1B1) 0(A1) 1(A1)", 1, 0);
        covers("0(A1B1) 0(B1) 1(A1)", 0, 0);
        covers("0(A(B1)) 0(An) 1(An)", 1, 0);
        covers("0(A(B1)) 0(An) 1(A())", 0, 0);
        covers("0(A[1]) 1(A[])", 1, 0);
        covers("0(A[[1]]) 1(A[[]])", 1, 0);
        covers("0(A[(B1)]) 1(A[(B1),()])", 0, 1);
        covers("0(A[(B1),()]) 1(A[()])", 1, 0);
    }

    private static void coveredShapes() {
        edges.says("Of shapes without nodes: one without nodes is covered by each one; one with"
                + " nodes is not covered by one without.");
        covers("", 1, 1);
        covers("0()", 1, 0);
        covers("1()", 0, 1);
        covers("0(A1) 1(A1) f1", 1, 0);
        covers("0(A1) f0 1(A1)", 0, 1);
    }

    public static void main(String[] args) throws IOException {
        edges = new Edges("JoinEdgeTest");
        sums();
        documentNumbers();
        children();
        shapesWithoutNodes();
        oneAfterTheOther();
        thirtyNodes();
        numbersAreInts();
        coveredKinds();
        coveredChildren();
        coveredShapes();
        edges.end();
    }
}
