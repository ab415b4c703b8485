import java.io.IOException;

/** Each sentence of the document that names an edge of fitting, or of what learning would bring. */
public final class FitEdgeTest {
    /** 28 nodes: three groups with all letters. */
    private static final String WIDE =
            "0(A(AnBnCnDnEnFnGnHn)B(AnBnCnDnEnFnGnHn)C(AnBnCnDnEnFnGnHn))";
    private static final String OTHER_WIDE =
            "(F(AnBnCnDnEnFnGnHn)G(AnBnCnDnEnFnGnHn)H(AnBnCnDnEnFnGnHn))";
    /** Nodes: 0, 1: A, 2: B, 3: its C, 4: its D, 5: E, 6: its values. */
    private static final String PLAIN = "0(A1B(C1.5D'x')E[1])";
    private static final String[] VALUES = {"n", "t", "7", "7.5", "'x'", "[]", "()"};
    private static final int ANY = 7;
    /** The kinds of values that fit a node of each kind, as far as nothing is marked. */
    private static final String[] FITTING = {"", "1", "2", "23", "1234", "5", "6", "123456"};
    private static final String FIT = "0 -1 -1";
    private static final String INCOMPLETE = "-1 -1 -1";
    private static final int[] BEYOND_TWO = {-1, 3, 4, 2147483647, -2147483648};
    private static final int[] BEYOND_FOUR = {-1, 5, 6, 2147483647, -2147483648};

    private static Edges edges;

    private static void fits(String words, String text, String due) {
        edges.same(words, "fits of " + text, x -> Edges.fits(Edges.type(x, text), 0), due);
        edges.same(words + " w", "fits of " + text, x -> Edges.fits(Edges.type(x, text), 1), due);
    }

    private static void brings(String words, String text, String due) {
        edges.same(words, "ifLearned of " + text, x -> Edges.ifLearned(Edges.type(x, text), 0), due);
        edges.same(words + " w", "ifLearned of " + text,
                x -> Edges.ifLearned(Edges.type(x, text), 1), due);
    }

    private static String ofKind(int kind) {
        return kind == ANY ? "0(A1) 0(A[])" : "0(A" + VALUES[kind] + ")";
    }

    private static void fittingKinds() {
        edges.says("Nothing fits a node if this is marked (whatever its kind is).");
        fits("0(An)", "(An)", FIT);
        for (int kind = 1; kind <= ANY; kind++) {
            fits(ofKind(kind), "(An)", "1 2 1");
            fits(ofKind(kind) + " 0(An)", "(An)", FIT);
            fits("0(An) " + ofKind(kind), "(An)", FIT);
        }
        fits("0(A[1])", "(A[n])", "1 3 2");
        fits("0(A[1,n])", "(A[n])", FIT);
        fits("0(A[n])", "(An)", "1 2 1");
        edges.says("Another value fits it if the kinds joined are the kind of the node");
        for (int kind = 0; kind <= ANY; kind++) {
            for (int value = 1; value < ANY; value++) {
                boolean due = FITTING[kind].indexOf('0' + value) >= 0;
                String text = "(A" + VALUES[value] + ")";
                fits(ofKind(kind), text, due ? FIT : "1 2 1");
                fits(ofKind(kind) + " 0(An)", text, due ? FIT : "1 2 1");
            }
        }
        edges.says("unless that is any, the parts or the values fit its children");
        fits("0(A1) 0(A[])", "(A(B[1]C(D't'E[])))", FIT);
        fits("0(A1) 0(A[])", "(A[n,[n],(Bn)])", FIT);
        fits("0(A[1,[]])", "(A[(B1),[n]])", FIT);
        fits("0(A1) 0(A[])", "(A(B[1])C1)", "2 8 0");
        fits("0(A1) 0(A[])", "()", "3 1 0");
    }

    private static void reasons() {
        edges.says("1: the kind; 2: a part for which there is no child (or a value of a row without"
                + " a child for rows); 3: a missing part");
        fits(PLAIN, "(A1B(C1D'x')E[1])", FIT);
        fits(PLAIN, "(E[]B(D'y'C2.5)A0)", FIT);
        fits(PLAIN, "(A1B(C1D'x')E[t])", "1 14 6");
        fits(PLAIN, "(F1)", "2 1 0");
        fits(PLAIN, "()", "3 1 0");
        fits("0()", "()", FIT);
        fits("0()", "(A1)", "2 1 0");
        fits("0()", "(H(A1))", "2 1 0");
        fits("0(A[])", "(A[5])", "2 3 1");
        fits("0(A[])", "(A[[n]])", "2 3 1");
        fits("0(A[])", "(A[n])", "2 3 1");
        fits("0(A[])", "(A[])", FIT);
        fits("0(A())", "(A(B1))", "2 3 1");
        fits("0(A1)", "(An)", "1 2 1");
        fits("0(A1) 0(An)", "()", "3 1 0");
        fits("0(A1) 0()", "()", FIT);
        fits("0(An)", "()", "3 1 0");
        fits("0(H1)", "()", "3 1 0");
        fits("0(A[1])", "(A[])", FIT);
        edges.says("The first misfit is found in the order of the text (that of a missing part"
                + " behind all parts of its group; of several missing ones the lowest letter).");
        fits(PLAIN, "(AtB(CtDt)E5)", "1 2 1");
        fits(PLAIN, "(E5B(CtDt)At)", "1 2 5");
        fits(PLAIN, "(B(DtCt)At)", "1 6 3");
        fits(PLAIN, "(B(D[]Ct)At)", "1 4 4");
        fits(PLAIN, "(B(C1)At)", "3 5 2");
        fits(PLAIN, "(B(C1F1)A1)", "2 5 2");
        fits(PLAIN, "(B(F1C1)At)", "2 3 2");
        fits(PLAIN, "(B()F1)", "3 3 2");
        fits(PLAIN, "(F1B())", "2 1 0");
        fits(PLAIN, "(E[1,t]F1)", "1 5 6");
        fits(PLAIN, "(E[1,2]F1)", "2 7 0");
        fits("0(A[(B1)])", "(A[(B1),(),(Bt)])", "3 9 2");
        fits("0(A[(B1)])", "(A[(B1),(Bt),()])", "1 10 3");
        fits("0(A[(B1)])", "(A[(B1),(B1C1),()])", "2 11 2");
    }

    private static void places() {
        edges.says(16, "1: the index in the buffer: for the reason 1 of the first character of the"
                + " value, for 2 of the letter (or of the first character of the value of a row),"
                + " for 3 of the \")\" of the group; NONE if it fits");
        fits(PLAIN, "(A'hello')", "1 2 1");
        fits(PLAIN, "(A-1.25)", "1 2 1");
        fits(PLAIN, "(A-12B'abcde')", "1 6 2");
        fits(PLAIN, "(A1B(C'abcde'D'x')E[])", "1 6 3");
        fits(PLAIN, "(A1234B[[1]])", "1 7 2");
        fits(PLAIN, "(A1B(C1D'x'F1)E[])", "2 11 2");
        fits(PLAIN, "(A1B(C1D'x')F(A1)E[])", "2 12 0");
        fits(PLAIN, "(A1B(C1D'x')E[1,-22,t])", "1 20 6");
        fits(PLAIN, "(A1B(C1)E[])", "3 7 2");
        fits(PLAIN, "(A1B()E[])", "3 5 2");
        fits(PLAIN, "(A1B(C1D'x'))", "3 12 0");
        fits(PLAIN, "(A1E[])", "3 6 0");
        fits("0(A[])", "(A['abc'])", "2 3 1");
        fits("0(A[[]])", "(A[[],[],[-5]])", "2 10 2");
        edges.says(16, "2: the node that it does not fit: that for the value (1), or that for the"
                + " group or row (2 and 3); NONE if it fits");
        fits("0(A(B(C(D1))))", "(A(B(C(Dt))))", "1 8 4");
        fits("0(A(B(C(D1))))", "(A(B(C(D1E1))))", "2 9 3");
        fits("0(A(B(C(D1))))", "(A(B(C())))", "3 7 3");
        fits("0(A(B(C(D1))))", "(A(B()))", "3 5 2");
        fits("0(A[[[1]]])", "(A[[[t]]])", "1 5 4");
        fits("0(A[[[]]])", "(A[[[],[7]]])", "2 8 3");
        fits(PLAIN + " 0(A1.5B(C1D'x')E[])", "(A1.5B(C1D'x')E[])", FIT);
    }

    private static void noDocument() {
        edges.says(16, "Returns the number; NONE if the buffer is not a complete document as a"
                + " text");
        String[] texts = {"", "(", "(A1", "(A1))", "()n", "[", "(A-0)"};
        for (String text : texts) {
            fits("0()", text, INCOMPLETE);
            fits("", text, INCOMPLETE);
        }
        edges.says(16, "a shape without nodes is fit by none: for the reason 1, at the index 0, and"
                + " with NONE for what 2");
        fits("", "()", "1 0 -1");
        fits("", "(A1B[n])", "1 0 -1");
        fits("1(A1)", "(A1)", "1 0 -1");
        fits("0(A1) f0", "(A1)", "1 0 -1");
        edges.says(16, "Throws `IllegalArgumentException` if what is not 0 to 2");
        for (int what : BEYOND_TWO) {
            edges.refused("0(A1) <(A1)", "fits(0, what)", x -> x.fits(0, what), Edges.ARGUMENT);
            edges.refused("0(A1) <(A", "fits(1, what)", x -> x.fits(1, what), Edges.ARGUMENT);
        }
        for (int what = 0; what <= 2; what++) {
            int asked = what;
            edges.looks(PLAIN + " <(A1)", "fits(0, what)", x -> x.fits(0, asked));
        }
    }

    private static void whatIsLearntFits() {
        edges.says("### Fitting");
        String[] texts = {"(A1B(C1)D[1])", "(AnB(CtE[])D[n,1.5])", "(A2.5BnD[])", "()", "(D[])",
            "(A'x'D[1,'a'])", "(B[1])", "(D[[1]])", "(A[(B1),(C1)])", "(A[(B1.5),()])", "(AnBnDn)"};
        StringBuilder words = new StringBuilder();
        for (int last = 0; last < texts.length; last++) {
            words.append(" 0").append(texts[last]);
            for (int i = 0; i <= last; i++) {
                fits(words.toString(), texts[i], FIT);
            }
        }
    }

    private static void wouldBring() {
        String words = "0(A(B1C2)D3)";
        edges.says(17, "0: how many nodes it would have");
        brings("", "()", "1 0 0 0 0");
        brings("", "(A[1])", "3 0 0 0 0");
        brings(words, "(A(B1C2)D3)", "5 0 0 0 0");
        brings(words, "(E1A(A1D[]))", "8 0 0 0 0");
        brings(words, "(An)", "5 0 0 0 0");
        brings(WIDE, "(D1E1)", "30 0 0 0 0");
        brings(WIDE, "(D1E1F1)", "31 0 0 0 1");
        brings(WIDE + " 0(D1E1)", OTHER_WIDE, "57 0 0 0 1");
        brings("1(A1)", "(B1)", "2 0 0 0 0");
        edges.says(17, "1: of the nodes that there are now, and would stay, how many would have"
                + " another kind");
        brings(words, "(D1.5)", "5 1 0 0 0");
        brings(words, "(DtA(B'x'))", "5 2 0 0 0");
        brings(words, "(DtA(B'x'C1.5))", "5 3 0 0 0");
        brings(words, "(E1)", "6 0 0 0 0");
        brings(words, "(E[1,1.5,t])", "7 0 0 0 0");
        brings(words, "(E[1,[]])", "7 0 0 0 0");
        brings("0(An)", "(A1)", "2 1 0 0 0");
        brings("0(An)", "(A(B1))", "3 1 0 0 0");
        brings("0(An)", "(An)", "2 0 0 0 0");
        brings("0(A[1])", "(A[1.5,'x',1])", "3 1 0 0 0");
        brings("0(B1C2)", "(A1B'x')", "4 1 0 0 0");
        brings("0(A1.5)", "(A1)", "2 0 0 0 0");
        brings("0(A1) 0(A[])", "(A())", "2 0 0 0 0");
        edges.says(17, "2: of those with another kind, how many would be any");
        brings(words, "(A(B[]))", "5 1 1 0 0");
        brings(words, "(A(B[])D[])", "5 2 2 0 0");
        brings(words, "(A(B[])D1.5)", "5 2 1 0 0");
        brings(words, "(E[1,[]]D[])", "7 1 1 0 0");
        brings("0(A1B1) 0(A[])", "(A()B())", "3 1 1 0 0");
        edges.says(17, "3: how many of the nodes that there are now would be gone");
        brings(words, "(A[])", "3 1 1 2 0");
        brings(words, "(A7)", "3 1 1 2 0");
        brings(words, "(A[(F1)])", "3 1 1 2 0");
        brings(words, "(A[]E(B1))", "5 1 1 2 0");
        brings("0(A[[[1]]])", "(A())", "2 1 1 3 0");
        brings("0(A[[[1]]])", "(A[[[[]]]])", "-1 -1 -1 -1 -1");
        brings("0(A[[[1]]])", "(A[[[],1]])", "4 1 1 1 0");
        brings("0(A(B1)C(D1))", "(A(B1.5)C[])", "4 2 1 1 0");
        brings("0(A(B1)C(D1))", "(A(BtE1)Ct)", "5 2 1 1 0");
        brings(WIDE + " 0(D1E1)", "(A1B1C1)", "6 3 3 24 0");
    }

    private static void wouldBeRefused() {
        edges.says(17, "4: 1 if it would be refused, otherwise 0 (the others are told as if it was"
                + " not)");
        brings("0(A(B1C2)D3) s1", "(A[])", "3 1 1 2 1");
        brings("0(A(B1C2)D3) s1 s0", "(A[])", "3 1 1 2 0");
        brings("0(A(B1C2)D3) s1", "(A(BtC1.5)D'x')", "5 3 0 0 0");
        brings("s1", "(A[1,[]])", "3 0 0 0 1");
        brings("0(A1) 0(A[]) s1", "(A())", "2 0 0 0 0");
        brings("0(A1B1) 0(A[]) s1", "(A()B())", "3 1 1 0 1");
        brings(WIDE + " 0(D1E1)", "(F1)", "31 0 0 0 1");
        brings(WIDE + " 0(D1E1)", "(F1A1)", "23 1 1 8 0");
        brings(WIDE + " 0(D1E1) s1", "(F1A1)", "23 1 1 8 1");
        brings(WIDE + " 0(D1E1) s1", "(F1)", "31 0 0 0 1");
        brings(WIDE + " 0(D1)", "(E[(AnBnCnDn),1])", "31 0 0 0 1");
        edges.says(17, "Returns the number; NONE if the buffer is not a complete document as a"
                + " text.");
        String[] texts = {"", "(", "(A1", "(A1))", "()n", "[", "(A-0)"};
        for (String text : texts) {
            brings("0(A1)", text, "-1 -1 -1 -1 -1");
            brings("", text, "-1 -1 -1 -1 -1");
        }
        edges.says(17, "Throws `IllegalArgumentException` if what is not 0 to 4");
        for (int what : BEYOND_FOUR) {
            edges.refused("0(A1) <(A1)", "ifLearned(0, what)", x -> x.ifLearned(0, what),
                    Edges.ARGUMENT);
            edges.refused("0(A1) <(A", "ifLearned(1, what)", x -> x.ifLearned(1, what),
                    Edges.ARGUMENT);
        }
        for (int what = 0; what <= 4; what++) {
            int asked = what;
            edges.looks(WIDE + " s1 <(F1A1)", "ifLearned(0, what)", x -> x.ifLearned(0, asked));
            edges.looks(WIDE + " s1 <(F1A1)", "ifLearned(1, what)", x -> x.ifLearned(1, asked));
        }
    }

    public static void main(String[] args) throws IOException {
        edges = new Edges("FitEdgeTest");
        fittingKinds();
        reasons();
        places();
        noDocument();
        whatIsLearntFits();
        wouldBring();
        wouldBeRefused();
        edges.end();
    }
}
