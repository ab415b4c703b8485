import java.io.IOException;
import java.math.BigInteger;
import java.util.ArrayList;
import java.util.List;

/** Each sentence of the document that names an edge of the calls: ranges, undo, exceptions, looks. */
public final class CallEdgeTest {
    /** Nodes: 0, 1: A, 2: its C, 3: D, 4: its values, 5: E, any. */
    private static final String TREE = "0(A(C1)D[n]E[]) 0(A(C2)E1)";
    /** Six saved states, two shapes, a setting, and a document in the buffer. */
    private static final String FULL = "0(A1) 0() s1 1(B[n]) 1(An) 0(A1.5) w <(A5)";
    private static final String LONG = "0(A1) 1(B1) 0(A1.5) s1 f1 w 0(C[1,n]) j0 0(A'x')";
    private static final int[] NO_SHAPES = {-1, 2, 3, 2147483647, -2147483648};

    private static Edges edges;

    private static void answers(String words, String call, Edges.Call made, Object due) {
        edges.same(words, call, made, due);
    }

    private static void index(String words, String call, Edges.Call made) {
        edges.refused(words, call, made, Edges.INDEX);
    }

    private static void argument(String words, String call, Edges.Call made) {
        edges.refused(words, call, made, Edges.ARGUMENT);
    }

    private static void newObject() {
        edges.says("`NONE = -1`");
        edges.same("NONE", LearnedShapes.NONE, -1);
        edges.says(1, "Creates shapes without nodes, with an empty buffer.");
        for (int shape = 0; shape <= 1; shape++) {
            int s = shape;
            answers("", "numbers", x -> numbers(x, s), "0 0 0 0 0 -1");
            answers("", "covers", x -> x.covers(s), 1);
            answers("", "fits", x -> Edges.fits(x, s), "-1 -1 -1");
            answers("", "ifLearned", x -> Edges.ifLearned(x, s), "-1 -1 -1 -1 -1");
            answers("", "sureShare", x -> x.sureShare(s), 1.0);
            index("", "node", x -> x.node(s, 0, 0));
            index("", "child", x -> x.child(s, 0, 0));
            argument("", "learn", x -> x.learn(s));
        }
        answers("", "counts", x -> x.count(0) + " " + x.count(1) + " " + x.count(2), "0 0 0");
        answers("", "ifJoined", x -> x.ifJoined(), 0);
        answers("", "firstError", x -> x.firstError(), 0);
        answers("", "clearBuffer", x -> x.clearBuffer(), 0);
        answers("", "document", x -> x.document(0), -1);
        edges.refused("", "undo", x -> x.undo(), Edges.STATE);
        LearnedShapes other = Edges.made(FULL);
        String before = Edges.history(Edges.made(FULL));
        Edges.made("1(A[]) s1 j0 <(");
        edges.same("another object", Edges.history(other), before);
    }

    private static String numbers(LearnedShapes x, int shape) {
        StringBuilder s = new StringBuilder();
        for (int what = 0; what <= 5; what++) {
            s.append(what == 0 ? "" : " ").append(x.shape(shape, what));
        }
        return s.toString();
    }

    /** A call with a shape that may not be there. */
    private interface ShapeCall {
        Object on(LearnedShapes x, int shape);
    }

    private static void noSuchShape(int promise, String call, ShapeCall made) {
        edges.says(promise, "Throws `IndexOutOfBoundsException` if there is no such shape");
        String[] states = {"", FULL, "0(A1) 1(A1) <(A", "0(A1) s1 <(A[])"};
        for (String words : states) {
            for (int shape : NO_SHAPES) {
                index(words, call + " of the shape " + shape, x -> made.on(x, shape));
            }
        }
    }

    private static void noSuchShape() {
        noSuchShape(2, "learn", (x, shape) -> x.learn(shape));
        noSuchShape(3, "join", (x, shape) -> x.join(shape));
        noSuchShape(4, "forget", (x, shape) -> x.forget(shape));
        noSuchShape(11, "node", (x, shape) -> x.node(shape, 0, 0));
        noSuchShape(12, "child", (x, shape) -> x.child(shape, 0, 0));
        noSuchShape(13, "shape", (x, shape) -> x.shape(shape, 0));
        noSuchShape(16, "fits", (x, shape) -> x.fits(shape, 0));
        noSuchShape(17, "ifLearned", (x, shape) -> x.ifLearned(shape, 0));
        noSuchShape(18, "covers", (x, shape) -> x.covers(shape));
        noSuchShape(20, "sureShare", (x, shape) -> x.sureShare(shape));
    }

    private static void firstException() {
        edges.says("If several exceptions apply, the one that is named first in the throws clause is"
                + " thrown.");
        for (int shape : NO_SHAPES) {
            index(FULL, "node(no shape, 0, 10)", x -> x.node(shape, 0, 10));
            index(FULL, "child(no shape, 0, 9)", x -> x.child(shape, 0, 9));
            index(FULL, "shape(no shape, 6)", x -> x.shape(shape, 6));
            index(FULL, "fits(no shape, 3)", x -> x.fits(shape, 3));
            index(FULL, "ifLearned(no shape, 5)", x -> x.ifLearned(shape, 5));
            index(FULL + " <(A", "learn(no shape), incomplete", x -> x.learn(shape));
            index("0(A1) s1 <(A[])", "learn(no shape), refused", x -> x.learn(shape));
        }
        index(FULL, "node(0, 7, -1)", x -> x.node(0, 7, -1));
        index(FULL, "node(0, -1, 10)", x -> x.node(0, -1, 10));
        index("", "node(0, 0, 10)", x -> x.node(0, 0, 10));
        index(FULL, "child(0, 7, -1)", x -> x.child(0, 7, -1));
        index(FULL, "child(0, -1, 9)", x -> x.child(0, -1, 9));
        index("", "child(1, 0, 9)", x -> x.child(1, 0, 9));
        argument("0(A1) <" + "(".repeat(60), "append(32)", x -> x.append(32));
        argument("0(A1) s1 <(A[]", "learn(0)", x -> x.learn(0));
        edges.says("A call that throws an exception changes nothing.");
        edges.refused("0(A1) 0() s1 1(B[n]) 1(An) 0(A1.5) w <(B'x'A[])", "learn(0)",
                x -> x.learn(0), Edges.STATE);
        edges.refused("s1 0(A1) f0 f0 <(", "append(127)", x -> x.append(127), Edges.ARGUMENT);
        argument(FULL, "set(2)", x -> x.set(2));
        argument(FULL + " <(A", "learn(1)", x -> x.learn(1));
        LearnedShapes undone = Edges.made("0(A1) u <(A");
        long digest = undone.digest();
        edges.same("undo()", Edges.thrownBy(undone, x -> x.undo()), Edges.STATE);
        edges.same("the state then", undone.digest(), digest);
    }

    private static void forgetting() {
        edges.says(4, "Lets a shape forget all: it has no nodes, and learnt no documents.");
        answers("0(A1) 0() 1(B1) f0", "numbers", x -> numbers(x, 0), "0 0 0 0 0 -1");
        answers("0(A1) 0() 1(B1) f0", "the other one", x -> numbers(x, 1), "1 2 0 0 0 1");
        answers("0(A1) 1(B1) 1() f1", "numbers", x -> numbers(x, 1), "0 0 0 0 0 -1");
        answers("s1 0(A1) f0 <(A", "the rest", x -> x.count(0) * 100 + x.count(1) * 10
                + x.count(2), 123);
        answers("0(A1) <(A f0", "the buffer", x -> x.count(1), 2);
        edges.undoable("0(A1) 1() s1 <(A", "forget(0)", x -> x.forget(0));
        edges.undoable("0(A1)", "forget(1)", x -> x.forget(1));
        edges.says(4, "Returns how many nodes it had.");
        answers("", "forget(0)", x -> x.forget(0), 0);
        answers("0()", "forget(0)", x -> x.forget(0), 1);
        answers("0(A1) 1(A[1])", "forget(1)", x -> x.forget(1), 3);
        answers("0(A1)", "forget(0) again", x -> x.forget(0) * 10 + x.forget(0), 20);
        answers("0(A(AnBnCnDnEnFnGnHn)B(AnBnCnDnEnFnGnHn)C(AnBnCnDnEnFnGnHn)) 0(D1E1)",
                "forget(0)", x -> x.forget(0), 30);
    }

    private static void swapping() {
        edges.says(5, "Exchanges both shapes. Undoable.");
        for (int what = 0; what <= 9; what++) {
            int asked = what;
            answers(TREE + " 1(B1) w", "nodes of 1", x -> Edges.nodes(x, 1, asked),
                    Edges.nodes(Edges.made(TREE), 0, what));
            answers("1(B1) " + TREE + " w", "nodes of 0", x -> Edges.nodes(x, 0, asked),
                    Edges.nodes(Edges.made("1(B1)"), 1, what));
        }
        answers("0(A1) 0() 0() 1(B1) w", "documents", x -> x.shape(0, 0) * 10 + x.shape(1, 0), 13);
        answers("s1 <(A w", "the rest", x -> x.count(0) * 100 + x.count(1) * 10 + x.count(2), 122);
        edges.undoable(TREE + " 1(B1)", "swap()", x -> x.swap());
        edges.undoable("", "swap()", x -> x.swap());
        edges.says(5, "Returns how many nodes the shape 0 has then.");
        answers("", "swap()", x -> x.swap(), 0);
        answers("0(A1)", "swap()", x -> x.swap(), 0);
        answers("1(A1)", "swap()", x -> x.swap(), 2);
        answers("0(A1) 1(A1B1)", "swap() twice", x -> x.swap() * 10 + x.swap(), 32);
    }

    private static void setting() {
        edges.says(6, "Changes the setting. Undoable.");
        answers("s1", "count(0)", x -> x.count(0), 1);
        answers("s1 s0", "count(0)", x -> x.count(0), 0);
        edges.undoable("", "set(1)", x -> x.set(1));
        edges.undoable("", "set(0)", x -> x.set(0));
        edges.undoable("s1 0(A1)", "set(1)", x -> x.set(1));
        edges.says(6, "Returns the previous value.");
        answers("", "set", x -> x.set(1) * 100 + x.set(1) * 10 + x.set(0), 11);
        answers("", "set", x -> x.set(0) * 100 + x.set(0) * 10 + x.set(1), 0);
        edges.says(6, "Throws `IllegalArgumentException` if value is out of range");
        for (int value : NO_SHAPES) {
            argument("", "set(" + value + ")", x -> x.set(value));
            argument("s1", "set(" + value + ")", x -> x.set(value));
        }
    }

    private static void undoing() {
        edges.says("saves the state from before it (also if it changes nothing)");
        answers("s0 f0 f1 j0 j1 w", "saved states", x -> x.count(2), 6);
        edges.undoable("", "forget(0)", x -> x.forget(0));
        edges.undoable("", "join(0)", x -> x.join(0));
        edges.undoable(TREE, "join(0) with no nodes", x -> x.join(0));
        edges.says("all but the buffer and the saved states");
        answers("0(A1) <(A u", "the buffer", x -> x.count(1) + " " + x.append('1'), "2 3");
        answers("<(A s1 <(A(B u", "the buffer", x -> x.count(1), 4);
        answers("0(A1) u", "the buffer that learn had", x -> x.count(1), 0);
        answers("0(A1) 0() 0() u u", "saved states", x -> x.count(2), 1);
        answers("0(A1) s1 1(B1) w u u", "counts", x -> x.count(0) + " " + x.count(2), "1 2");
        answers("0(A1) s1 1(B1) w u u u", "setting", x -> x.count(0), 0);
        edges.says("At most 6 states are saved; the oldest one is dropped first.");
        StringBuilder words = new StringBuilder();
        for (int learnt = 1; learnt <= 20; learnt++) {
            words.append(" 0(A").append(learnt).append(")");
            int saved = Math.min(learnt, 6);
            LearnedShapes x = Edges.made(words.toString());
            edges.same("saved states behind " + learnt, x.count(2), saved);
            for (int left = saved - 1; left >= 0; left--) {
                edges.same("undo()", x.undo(), left);
                edges.same("documents", x.shape(0, 0), learnt - saved + left);
            }
            edges.same("undo() at the end", Edges.thrownBy(x, y -> y.undo()), Edges.STATE);
            edges.same("documents at the end", x.shape(0, 0), learnt - saved);
        }
        answers("s1 s1 s1 s1 s1 s1 u u u u u u", "the first of six", x -> x.count(0), 0);
        answers("s1 s1 s1 s1 s1 s1 s1 u u u u u u", "the first of seven", x -> x.count(0), 1);
        answers("0() 0() 0() 0() 0() 0() 0() 0() u u 0() 0() 0()", "saved again",
                x -> x.count(2) + " " + x.shape(0, 0), "6 9");
        answers("0() 0() 0() 0() 0() 0() 0() 0() u u 0() 0() 0() u u u u u u", "the oldest",
                x -> x.count(2) + " " + x.shape(0, 0), "0 3");
    }

    private static void undo() {
        edges.says(10, "Restores the latest saved state, and drops it.");
        String[] words = LONG.split(" ");
        StringBuilder before = new StringBuilder();
        for (String word : words) {
            String then = before + " " + word;
            LearnedShapes x = Edges.made(then + " u");
            LearnedShapes y = Edges.made(before.toString());
            edges.same("both shapes behind undo of " + word, shapes(x), shapes(y));
            edges.same("setting behind undo of " + word, x.count(0), y.count(0));
            before.append(" ").append(word);
        }
        answers("0(A1) 0() u u 0(B1)", "nodes", x -> Edges.nodes(x, 0, 1), "-1 1");
        answers("0(A1) 0() u 0(A1) u u", "documents", x -> x.shape(0, 0), 0);
        edges.says(10, "Returns how many saved states are left.");
        answers("s1", "undo()", x -> x.undo(), 0);
        answers("s1 s1 s1 s1 s1 s1 s1", "undo()", x -> x.undo() * 10 + x.undo(), 54);
        edges.says(10, "Throws `IllegalStateException` if there is none");
        edges.refused("<(A1", "undo()", x -> x.undo(), Edges.STATE);
        edges.refused("s1 u", "undo()", x -> x.undo(), Edges.STATE);
        edges.refused("0(A1) s1 w u u u <(A1", "undo()", x -> x.undo(), Edges.STATE);
    }

    private static String shapes(LearnedShapes x) {
        StringBuilder s = new StringBuilder();
        for (int shape = 0; shape <= 1; shape++) {
            s.append(numbers(x, shape)).append(";");
            for (int what = 0; what <= 9; what++) {
                s.append(Edges.nodes(x, shape, what)).append(";");
            }
        }
        return s.toString();
    }

    private static void node() {
        edges.says(11, "1: its letter, 0 for \"A\" to 7 for \"H\", 8 for the child for rows, NONE"
                + " for the first node; 2: its parent, NONE for the first node; 3: how deep it is,"
                + " 0 for the first node");
        String[] due = {"6 6 2 5 0 7", "-1 0 2 3 8 4", "-1 0 1 0 3 0", "0 1 2 1 2 1", "2 2 2 1 1 2",
            "0 0 0 0 1 0", "2 2 0 0 0 0", "0 0 0 1 0 0", "1 1 1 1 1 2", "3 1 0 1 0 0"};
        for (int what = 0; what <= 9; what++) {
            int asked = what;
            answers(TREE, "property " + what, x -> Edges.nodes(x, 0, asked), due[what]);
            answers(TREE + " w", "property " + what, x -> Edges.nodes(x, 1, asked), due[what]);
            edges.looks(TREE, "property " + what, x -> x.node(0, 4, asked));
        }
        answers("0(HnGn)", "letters", x -> Edges.nodes(x, 0, 1), "-1 6 7");
        answers("0(A(B(C[1])))", "depths", x -> Edges.nodes(x, 0, 3), "0 1 2 3 4");
        edges.says(11, "if there is no such shape or node");
        int[] noNodes = {-1, 6, 7, 30, 64, 2147483647, -2147483648};
        for (int node : noNodes) {
            index(TREE, "node(0, " + node + ", 0)", x -> x.node(0, node, 0));
            index(TREE, "node(0, " + node + ", 10)", x -> x.node(0, node, 10));
            index(TREE, "node(1, " + node + ", 0)", x -> x.node(1, node, 0));
        }
        index(TREE, "node(1, 0, 0)", x -> x.node(1, 0, 0));
        index(TREE + " 0(D1)", "node(0, 5, 0), gone", x -> x.node(0, 5, 0));
        index(TREE + " f0", "node(0, 0, 0), forgotten", x -> x.node(0, 0, 0));
        edges.says(11, "Throws `IllegalArgumentException` if what is not 0 to 9");
        int[] wrong = {-1, 10, 11, 2147483647, -2147483648};
        for (int what : wrong) {
            argument(TREE, "node(0, 5, " + what + ")", x -> x.node(0, 5, what));
        }
    }

    private static void child() {
        edges.says(12, "Returns the number of the child; NONE if there is none.");
        children(TREE, 0, "1 -1 -1 3 5 -1 -1 -1 -1");
        children(TREE, 1, "-1 -1 2 -1 -1 -1 -1 -1 -1");
        children(TREE, 2, "-1 -1 -1 -1 -1 -1 -1 -1 -1");
        children(TREE, 3, "-1 -1 -1 -1 -1 -1 -1 -1 4");
        children(TREE, 4, "-1 -1 -1 -1 -1 -1 -1 -1 -1");
        children(TREE, 5, "-1 -1 -1 -1 -1 -1 -1 -1 -1");
        children("0(AnBnCnDnEnFnGnHn)", 0, "1 2 3 4 5 6 7 8 -1");
        children("0(A(A(A())))", 1, "2 -1 -1 -1 -1 -1 -1 -1 -1");
        children("0(A(BnC(Bn))B1)", 0, "1 5 -1 -1 -1 -1 -1 -1 -1");
        children("0()", 0, "-1 -1 -1 -1 -1 -1 -1 -1 -1");
        edges.says(12, "if there is no such shape or node");
        int[] noNodes = {-1, 6, 7, 30, 64, 2147483647, -2147483648};
        for (int node : noNodes) {
            index(TREE, "child(0, " + node + ", 0)", x -> x.child(0, node, 0));
            index(TREE, "child(0, " + node + ", 9)", x -> x.child(0, node, 9));
            index(TREE, "child(1, " + node + ", 0)", x -> x.child(1, node, 0));
        }
        edges.says(12, "Throws `IllegalArgumentException` if letter is out of range");
        int[] wrong = {-1, 9, 10, 2147483647, -2147483648};
        for (int letter : wrong) {
            argument(TREE, "child(0, 0, " + letter + ")", x -> x.child(0, 0, letter));
            argument(TREE, "child(0, 5, " + letter + ")", x -> x.child(0, 5, letter));
        }
    }

    private static void children(String words, int node, String due) {
        StringBuilder s = new StringBuilder();
        LearnedShapes x = Edges.made(words);
        for (int letter = 0; letter <= 8; letter++) {
            s.append(letter == 0 ? "" : " ").append(x.child(0, node, letter));
        }
        edges.same(words + ": children of " + node, s.toString(), due);
        edges.looks(words, "child", y -> y.child(0, node, 0));
    }

    private static void shape() {
        edges.says(13, "5: the depth of the deepest node, NONE without nodes");
        answers("", "shape(0, 5)", x -> x.shape(0, 5), -1);
        answers("0(A1) f0", "shape(0, 5)", x -> x.shape(0, 5), -1);
        answers("0()", "shape(0, 5)", x -> x.shape(0, 5), 0);
        answers("0(A1)", "shape(0, 5)", x -> x.shape(0, 5), 1);
        answers("0(A(B(C[1]))D1)", "shape(0, 5)", x -> x.shape(0, 5), 4);
        answers("0(A(B(C[1]))D1) 0(A1)", "shape(0, 5)", x -> x.shape(0, 5), 1);
        edges.says(13, "0: documents that it learnt; 1: nodes; 2: nodes of the kind any; 3: parts"
                + " that can be missing; 4: marked nodes");
        answers(TREE, "numbers", x -> numbers(x, 0), "2 6 1 1 1 2");
        answers(TREE, "numbers", x -> numbers(x, 1), "0 0 0 0 0 -1");
        answers(TREE + " 0(DnEn)", "numbers", x -> numbers(x, 0), "3 6 1 2 3 2");
        answers("0()", "numbers", x -> numbers(x, 0), "1 1 0 0 0 0");
        answers("1(A[1,[],n]B[()])", "numbers", x -> numbers(x, 1), "1 5 1 0 1 2");
        edges.looks(TREE, "numbers", x -> numbers(x, 0));
        edges.says(13, "Throws `IllegalArgumentException` if what is not 0 to 5");
        int[] wrong = {-1, 6, 7, 2147483647, -2147483648};
        for (int what : wrong) {
            argument(TREE, "shape(0, " + what + ")", x -> x.shape(0, what));
            argument(TREE, "shape(1, " + what + ")", x -> x.shape(1, what));
        }
    }

    private static void count() {
        edges.says(15, "0: the setting; 1: the length of the buffer; 2: saved states");
        answers(FULL, "counts", x -> x.count(0) + " " + x.count(1) + " " + x.count(2), "1 4 6");
        answers("s1 s0 <(", "counts", x -> x.count(0) + " " + x.count(1) + " " + x.count(2),
                "0 1 2");
        edges.looks(FULL, "count(2)", x -> x.count(2));
        edges.says(15, "Throws `IllegalArgumentException` if what is not 0 to 2");
        int[] wrong = {-1, 3, 4, 2147483647, -2147483648};
        for (int what : wrong) {
            argument("", "count(" + what + ")", x -> x.count(what));
            argument(FULL, "count(" + what + ")", x -> x.count(what));
        }
    }

    private static void looks() {
        edges.says("---- looks; nothing is changed.");
        edges.looks(FULL, "document(8)", x -> x.document(8));
        edges.looks(FULL, "shapes", x -> shapes(x));
        edges.looks(TREE + " <(A", "document(8)", x -> x.document(8));
        edges.says("---- what would be; nothing is changed.");
        String[] states = {FULL, TREE + " <(A[]B[1,[]])", TREE + " 1(A[]) <(", ""};
        for (String words : states) {
            edges.looks(words, "fits", x -> Edges.fits(x, 0) + Edges.fits(x, 1));
            edges.looks(words, "ifLearned", x -> Edges.ifLearned(x, 0) + Edges.ifLearned(x, 1));
            edges.looks(words, "covers", x -> x.covers(0) + x.covers(1));
            edges.looks(words, "ifJoined", x -> x.ifJoined());
            edges.looks(words, "sureShare", x -> x.sureShare(0) + x.sureShare(1));
            edges.looks(words, "digest", x -> x.digest());
            edges.looks(words, "firstError", x -> x.firstError());
        }
        answers(TREE + " 1(A1) <(A[])", "nodes behind the looks", x -> {
            String before = shapes(x);
            Edges.ifLearned(x, 0);
            x.ifJoined();
            Edges.fits(x, 1);
            x.covers(1);
            x.digest();
            return before.equals(shapes(x)) + " " + x.learn(0);
        }, "true 5");
    }

    private static void sureShare() {
        edges.says(20, "Returns the nodes that are neither marked, nor any, nor parts that can be"
                + " missing, as a double, divided by all nodes; 1.0 without nodes.");
        answers("", "sureShare(0)", x -> x.sureShare(0), 1.0);
        answers("0(A1) f0", "sureShare(0)", x -> x.sureShare(0), 1.0);
        answers("0(A1)", "sureShare(1)", x -> x.sureShare(1), 1.0);
        answers("0()", "sureShare(0)", x -> x.sureShare(0), 1.0);
        answers("0(A1)", "sureShare(0)", x -> x.sureShare(0), 1.0);
        answers("0(An)", "sureShare(0)", x -> x.sureShare(0), 0.5);
        answers("0(A1) 0()", "sureShare(0)", x -> x.sureShare(0), 0.5);
        answers("0(A1) 0(A[])", "sureShare(0)", x -> x.sureShare(0), 0.5);
        answers("0(A1) 0(A[]) 0(An) 0()", "sureShare(0)", x -> x.sureShare(0), 0.5);
        answers("0(A1) 0(B1)", "sureShare(0)", x -> x.sureShare(0), 1.0 / 3.0);
        answers("0(A1BnC1)", "sureShare(0)", x -> x.sureShare(0), 0.75);
        answers(TREE, "sureShare(0)", x -> x.sureShare(0), 3.0 / 6.0);
        answers(TREE + " 1(A1B1Cn)", "sureShare(1)", x -> x.sureShare(1), 3.0 / 4.0);
        answers("0(AnBnCnDnEnFnGnHn)", "sureShare(0)", x -> x.sureShare(0), 1.0 / 9.0);
        for (int sure = 1; sure <= 25; sure++) {
            answers(sureOfThirty(sure), "sureShare(0)", x -> x.sureShare(0), sure / 30.0);
        }
    }

    /** The words for a shape 0 of 30 nodes: the first one and some parts of parts are sure. */
    private static String sureOfThirty(int sure) {
        StringBuilder words = new StringBuilder("0(");
        for (int part = 0; part < 24; part++) {
            words.append(part % 8 == 0 ? (char) ('A' + part / 8) + "(" : "");
            words.append((char) ('A' + part % 8)).append(part < sure - 1 ? '1' : 'n');
            words.append(part % 8 == 7 ? ")" : "");
        }
        return words + ") 0(D1E1)";
    }

    private static void digest() {
        edges.says(21, "The hash starts at 2707. For each value v of the following list, in order,"
                + " the hash becomes 31 * hash + v, in long arithmetic with overflow.");
        List<Long> fresh = new ArrayList<>();
        add(fresh, 0, 0, 0);
        for (int shape = 0; shape <= 1; shape++) {
            add(fresh, 0, 0, 0, 0, 0, -1);
            add(fresh, -1, -1, -1);
            add(fresh, -1, -1, -1, -1, -1);
            add(fresh, 1, 0x3FF0000000000000L);
        }
        add(fresh, 0);
        add(fresh, -1, -1, -1, -1, -1, -1, -1, -1, -1);
        answers("", "digest()", x -> x.digest(), hash(fresh));
        List<Long> one = new ArrayList<>();
        add(one, 1, 4, 2);
        add(one, 1, 2, 0, 0, 1, 1);
        add(one, 6, -1, -1, 0, 1, 0, 1, 0, 1, 1);
        add(one, 0, 0, 0, 1, 1, 1, 0, 0, 1, 0);
        add(one, 1, 2, 1);
        add(one, 2, 1, 0, 0, 0);
        add(one, 1, 0x3FE0000000000000L);
        add(one, 0, 0, 0, 0, 0, -1);
        add(one, 1, 0, -1);
        add(one, 2, 0, 0, 0, 0);
        add(one, 0, 0x3FF0000000000000L);
        add(one, 2);
        add(one, 2, 0, 0, 1, 0, 0, 0, 1, 1);
        add(one, '(', 'A', '1', ')');
        answers("0(An) s1 <(A1)", "digest()", x -> x.digest(), hash(one));
        edges.says(21, "and the bits of sureShare (as Double.doubleToLongBits)");
        String[] states = {"0(A1B1) 0(C1)", "0(A1) 0(B1) 1(AnB1C1D1E1) <(A", TREE, FULL, LONG,
            "0(A[]B1) 0(C1D1E1) 1(A1BnCn) <(A1)", "0(An)", "0(A1BnC1D1E1F1)",
            "0(A(B1)) 1(A1) <(A(B(C1)))", "0(A1) 1(A(B1)) <(A(B(C1)))",
            Edges.grown("(A1)") + " 1(A1B2) j0 <(A1B2)", Edges.grown("(A[1])") + " j1 j0 <(A[t])"};
        for (String words : states) {
            answers(words, "digest()", x -> x.digest(), dueDigest(Edges.made(words), words));
        }
        for (int sure = 1; sure <= 25; sure++) {
            String words = sureOfThirty(sure);
            answers(words, "digest()", x -> x.digest(), dueDigest(Edges.made(words), words));
        }
    }

    private static void add(List<Long> list, long... values) {
        for (long value : values) {
            list.add(value);
        }
    }

    /** The hash without overflow, of which the lowest 64 bits are taken at the end. */
    private static long hash(List<Long> list) {
        BigInteger hash = BigInteger.valueOf(2707);
        for (long v : list) {
            hash = hash.multiply(BigInteger.valueOf(31)).add(BigInteger.valueOf(v));
        }
        return hash.longValue();
    }

    private static long dueDigest(LearnedShapes x, String words) {
        List<Long> list = new ArrayList<>();
        add(list, x.count(0), x.count(1), x.count(2));
        for (int shape = 0; shape <= 1; shape++) {
            for (int what = 0; what <= 5; what++) {
                add(list, x.shape(shape, what));
            }
            for (int node = 0; node < x.shape(shape, 1); node++) {
                for (int what = 0; what <= 9; what++) {
                    add(list, x.node(shape, node, what));
                }
            }
            add(list, x.fits(shape, 0), x.fits(shape, 1), x.fits(shape, 2));
            for (int what = 0; what <= 4; what++) {
                add(list, x.ifLearned(shape, what));
            }
            add(list, x.covers(shape), Double.doubleToLongBits(x.sureShare(shape)));
        }
        add(list, x.ifJoined());
        for (int what = 0; what <= 8; what++) {
            add(list, x.document(what));
        }
        int typed = words.lastIndexOf('<');
        for (int i = typed + 1; typed >= 0 && i < words.length(); i++) {
            add(list, words.charAt(i));
        }
        return hash(list);
    }

    private static void fiveHundredCalls() {
        edges.says("An object is used for at most 512 calls after it has been made");
        LearnedShapes x = new LearnedShapes();
        int calls = 0;
        int learnt = 0;
        while (calls + 5 <= 500) {
            x.append('(');
            x.append('A');
            x.append('1');
            x.append(')');
            x.learn(0);
            calls += 5;
            learnt++;
        }
        int last = 0;
        while (calls < 511) {
            last = x.append('(');
            calls++;
        }
        edges.same("the 511th call", last, 11);
        edges.same("the 512th call", x.shape(0, 0), learnt);
    }

    public static void main(String[] args) throws IOException {
        edges = new Edges("CallEdgeTest");
        newObject();
        noSuchShape();
        firstException();
        forgetting();
        swapping();
        setting();
        undoing();
        undo();
        node();
        child();
        shape();
        count();
        looks();
        sureShare();
        digest();
        fiveHundredCalls();
        edges.end();
    }
}
