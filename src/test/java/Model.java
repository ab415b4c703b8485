import java.util.ArrayList;
import java.util.Arrays;
import java.util.List;
import java.util.Map;
import java.util.TreeMap;

/**
 * What the document says, written a second time with other means: nodes as objects in maps, a
 * parser by descent, fresh copies for each state. Slow, and free of the rules of LANGUAGE.md.
 */
final class Model {

    static final class Value {
        int kind;
        int start;
        int end;
        final List<Integer> letters = new ArrayList<>();
        final List<Integer> letterPlaces = new ArrayList<>();
        final List<Value> values = new ArrayList<>();
    }

    static final class Node {
        int kind;
        int values;
        boolean marked;
        int groups;
        int made;
        TreeMap<Integer, Node> children = new TreeMap<>();

        Node copy() {
            Node n = new Node();
            n.kind = kind;
            n.values = values;
            n.marked = marked;
            n.groups = groups;
            n.made = made;
            for (Map.Entry<Integer, Node> e : children.entrySet()) {
                n.children.put(e.getKey(), e.getValue().copy());
            }
            return n;
        }

        boolean optional(int letter) {
            Node c = children.get(letter);
            return letter < 8 && c != null && c.values < groups;
        }
    }

    static final class Shape {
        Node root;
        int documents;

        Shape copy() {
            Shape s = new Shape();
            s.root = root == null ? null : root.copy();
            s.documents = documents;
            return s;
        }

        List<String> paths() {
            List<String> all = new ArrayList<>();
            if (root != null) {
                collect(root, "", all);
            }
            return all;
        }

        private static void collect(Node n, String path, List<String> all) {
            all.add(path);
            for (Map.Entry<Integer, Node> e : n.children.entrySet()) {
                collect(e.getValue(), path + e.getKey(), all);
            }
        }

        Node at(String path) {
            Node n = root;
            for (int i = 0; n != null && i < path.length(); i++) {
                n = n.children.get(path.charAt(i) - '0');
            }
            return n;
        }
    }

    static final class State {
        Shape[] shapes = {new Shape(), new Shape()};
        int setting;

        State copy() {
            State s = new State();
            s.shapes[0] = shapes[0].copy();
            s.shapes[1] = shapes[1].copy();
            s.setting = setting;
            return s;
        }
    }

    // ---- the text

    private static final class Stop extends RuntimeException {
        private static final long serialVersionUID = 1L;
        final boolean atEnd;

        Stop(boolean atEnd) {
            super(null, null, false, false);
            this.atEnd = atEnd;
        }
    }

    private final class Parser {
        final String text;
        int at;

        Parser(String text) {
            this.text = text;
        }

        char peek() {
            if (at >= text.length()) {
                throw new Stop(true);
            }
            return text.charAt(at);
        }

        void expect(String set) {
            if (set.indexOf(peek()) < 0) {
                throw new Stop(false);
            }
            at++;
        }

        Value value(int depth) {
            char c = peek();
            Value v = new Value();
            v.start = at;
            if (c == 'n') {
                at++;
                v.kind = 0;
            } else if (c == 't' || c == 'f') {
                at++;
                v.kind = 1;
            } else if (c == '\'') {
                at++;
                v.kind = 4;
                expect("abcdefghijklmnopqrstuvwxyz");
                for (int i = 1; i < 5 && peek() != '\''; i++) {
                    expect("abcdefghijklmnopqrstuvwxyz");
                }
                expect("'");
            } else if (c == '-' || Character.isDigit(c)) {
                number(v);
            } else if ((c == '(' || c == '[') && depth < 4) {
                container(v, depth);
            } else {
                throw new Stop(false);
            }
            v.end = at - 1;
            return v;
        }

        void number(Value v) {
            v.kind = 2;
            boolean minus = peek() == '-';
            if (minus) {
                at++;
            }
            boolean zero = peek() == '0';
            expect("0123456789");
            for (int i = 1; !zero && i < 4 && at < text.length() && Character.isDigit(peek()); i++) {
                at++;
            }
            if (zero && minus && peek() != '.') {
                throw new Stop(false);
            }
            if (peek() == '.') {
                at++;
                v.kind = 3;
                expect("0123456789");
                if (Character.isDigit(peek())) {
                    at++;
                }
            }
        }

        void container(Value v, int depth) {
            boolean group = peek() == '(';
            v.kind = group ? 6 : 5;
            at++;
            if (group) {
                while (peek() != ')') {
                    int letter = "ABCDEFGH".indexOf(peek());
                    if (letter < 0 || v.letters.contains(letter)) {
                        throw new Stop(false);
                    }
                    v.letters.add(letter);
                    v.letterPlaces.add(at);
                    at++;
                    v.values.add(value(depth + 1));
                }
            } else if (peek() != ']') {
                v.values.add(value(depth + 1));
                while (peek() != ']') {
                    expect(",");
                    v.values.add(value(depth + 1));
                }
            }
            at++;
        }
    }

    /** The document of the buffer, or null; errorAt is set. */
    private Value parse() {
        Parser p = new Parser(buffer.toString());
        errorAt = buffer.length();
        try {
            if (p.peek() != '(') {
                throw new Stop(false);
            }
            Value v = p.value(0);
            if (p.at < buffer.length()) {
                errorAt = p.at;
                return null;
            }
            return v;
        } catch (Stop s) {
            errorAt = s.atEnd ? buffer.length() : p.at;
            return null;
        }
    }

    // ---- the state

    private State state = new State();
    private final ArrayList<State> saved = new ArrayList<>();
    private final StringBuilder buffer = new StringBuilder();
    private int errorAt;

    private void save() {
        saved.add(state.copy());
        if (saved.size() > 6) {
            saved.remove(0);
        }
    }

    private static void range(int shape) {
        if (shape != 0 && shape != 1) {
            throw new IndexOutOfBoundsException();
        }
    }

    private static void what(int what, int most) {
        if (what < 0 || what > most) {
            throw new IllegalArgumentException();
        }
    }

    private static int joined(int a, int b) {
        if (a == b || b == 0) {
            return a;
        }
        if (a == 0) {
            return b;
        }
        boolean plainA = a >= 1 && a <= 4;
        boolean plainB = b >= 1 && b <= 4;
        if (plainA && plainB) {
            return (a == 2 || a == 3) && (b == 2 || b == 3) ? 3 : 4;
        }
        return 7;
    }

    private boolean becameAny;

    private Node show(Node node, Value v, int number) {
        Node n = node;
        int kind;
        if (n == null) {
            n = new Node();
            n.kind = v.kind;
            n.made = number;
        } else {
            kind = joined(n.kind, v.kind);
            if (kind != n.kind) {
                becameAny |= kind == 7;
                n.kind = kind;
                n.made = number;
            }
        }
        n.values++;
        n.groups += v.kind == 6 ? 1 : 0;
        n.marked |= v.kind == 0;
        if (n.kind == 7) {
            n.children.clear();
            return n;
        }
        for (int i = 0; i < v.values.size(); i++) {
            int key = v.kind == 6 ? v.letters.get(i) : 8;
            n.children.put(key, show(n.children.get(key), v.values.get(i), number));
        }
        return n;
    }

    private Shape learned(Shape s, Value v) {
        Shape t = s.copy();
        becameAny = false;
        t.documents++;
        t.root = show(t.root, v, t.documents);
        return t;
    }

    private static Node moved(Node n, int documents) {
        Node m = n.copy();
        renumber(m, documents);
        return m;
    }

    private static void renumber(Node n, int documents) {
        n.made += documents;
        for (Node c : n.children.values()) {
            renumber(c, documents);
        }
    }

    private static Node union(Node a, Node b, int documents) {
        if (b == null) {
            return a == null ? null : a.copy();
        }
        if (a == null) {
            return moved(b, documents);
        }
        Node n = new Node();
        n.kind = joined(a.kind, b.kind);
        n.values = a.values + b.values;
        n.groups = a.groups + b.groups;
        n.marked = a.marked || b.marked;
        n.made = n.kind == a.kind ? a.made : documents + b.made;
        if (n.kind != 7) {
            for (int key = 0; key <= 8; key++) {
                Node c = union(a.children.get(key), b.children.get(key), documents);
                if (c != null) {
                    n.children.put(key, c);
                }
            }
        }
        return n;
    }

    private static Shape union(Shape a, Shape b) {
        Shape s = new Shape();
        s.documents = a.documents + b.documents;
        s.root = union(a.root, b.root, a.documents);
        return s;
    }

    // ---- the calls

    int learn(int shape) {
        range(shape);
        Value v = parse();
        if (v == null) {
            throw new IllegalArgumentException();
        }
        Shape t = learned(state.shapes[shape], v);
        if (t.paths().size() > 30 || state.setting == 1 && becameAny) {
            throw new IllegalStateException();
        }
        save();
        state.shapes[shape] = t;
        buffer.setLength(0);
        return t.paths().size();
    }

    int join(int shape) {
        range(shape);
        Shape t = union(state.shapes[shape], state.shapes[1 - shape]);
        if (t.paths().size() > 30) {
            throw new IllegalStateException();
        }
        save();
        state.shapes[shape] = t;
        return t.paths().size();
    }

    int forget(int shape) {
        range(shape);
        save();
        int nodes = state.shapes[shape].paths().size();
        state.shapes[shape] = new Shape();
        return nodes;
    }

    int swap() {
        save();
        Shape s = state.shapes[0];
        state.shapes[0] = state.shapes[1];
        state.shapes[1] = s;
        return state.shapes[0].paths().size();
    }

    int set(int value) {
        what(value, 1);
        save();
        int previous = state.setting;
        state.setting = value;
        return previous;
    }

    int append(int code) {
        if (code < 33 || code > 126) {
            throw new IllegalArgumentException();
        }
        if (buffer.length() == 60) {
            throw new IllegalStateException();
        }
        buffer.append((char) code);
        return buffer.length();
    }

    int clearBuffer() {
        int l = buffer.length();
        buffer.setLength(0);
        return l;
    }

    int firstError() {
        parse();
        return errorAt;
    }

    int undo() {
        if (saved.isEmpty()) {
            throw new IllegalStateException();
        }
        state = saved.remove(saved.size() - 1);
        return saved.size();
    }

    private String path(int shape, int node) {
        range(shape);
        List<String> paths = state.shapes[shape].paths();
        if (node < 0 || node >= paths.size()) {
            throw new IndexOutOfBoundsException();
        }
        return paths.get(node);
    }

    int node(int shape, int node, int what) {
        String path = path(shape, node);
        what(what, 9);
        Shape s = state.shapes[shape];
        Node n = s.at(path);
        boolean top = path.isEmpty();
        int letter = top ? -1 : path.charAt(path.length() - 1) - '0';
        String up = top ? null : path.substring(0, path.length() - 1);
        int[] all = {n.kind, letter, top ? -1 : s.paths().indexOf(up), path.length(), n.values,
            n.marked ? 1 : 0, n.groups, !top && s.at(up).optional(letter) ? 1 : 0, n.made,
            n.children.size()};
        return all[what];
    }

    int child(int shape, int node, int letter) {
        String path = path(shape, node);
        what(letter, 8);
        return state.shapes[shape].paths().indexOf(path + letter);
    }

    int shape(int shape, int what) {
        range(shape);
        what(what, 5);
        int[] all = {state.shapes[shape].documents, 0, 0, 0, 0, -1};
        for (int i = 0; i < state.shapes[shape].paths().size(); i++) {
            all[1]++;
            all[2] += node(shape, i, 0) == 7 ? 1 : 0;
            all[3] += node(shape, i, 7);
            all[4] += node(shape, i, 5);
            all[5] = Math.max(all[5], node(shape, i, 3));
        }
        return all[what];
    }

    private static int tally(Value v, int depth, int[] all) {
        all[0]++;
        all[1 + v.kind]++;
        if (v.kind >= 5) {
            all[8] = Math.max(all[8], depth);
        }
        for (Value w : v.values) {
            tally(w, depth + 1, all);
        }
        return 0;
    }

    int document(int what) {
        what(what, 8);
        Value v = parse();
        if (v == null) {
            return -1;
        }
        int[] all = new int[9];
        tally(v, 1, all);
        return all[what];
    }

    int count(int what) {
        what(what, 2);
        return new int[] {state.setting, buffer.length(), saved.size()}[what];
    }

    private int[] misfit(Shape s, Value v, String path) {
        Node n = s.at(path);
        int number = s.paths().indexOf(path);
        if (v.kind == 0) {
            return n.marked ? null : new int[] {1, v.start, number};
        }
        if (joined(n.kind, v.kind) != n.kind) {
            return new int[] {1, v.start, number};
        }
        if (n.kind == 7) {
            return null;
        }
        for (int i = 0; i < v.values.size(); i++) {
            Value w = v.values.get(i);
            int key = v.kind == 6 ? v.letters.get(i) : 8;
            if (!n.children.containsKey(key)) {
                return new int[] {2, v.kind == 6 ? v.letterPlaces.get(i) : w.start, number};
            }
            int[] below = misfit(s, w, path + key);
            if (below != null) {
                return below;
            }
        }
        for (int key = 0; v.kind == 6 && key < 8; key++) {
            if (n.children.containsKey(key) && !n.optional(key) && !v.letters.contains(key)) {
                return new int[] {3, v.end, number};
            }
        }
        return null;
    }

    int fits(int shape, int what) {
        range(shape);
        what(what, 2);
        Value v = parse();
        if (v == null) {
            return -1;
        }
        if (state.shapes[shape].root == null) {
            return new int[] {1, 0, -1}[what];
        }
        int[] found = misfit(state.shapes[shape], v, "");
        return found == null ? (what == 0 ? 0 : -1) : found[what];
    }

    int ifLearned(int shape, int what) {
        range(shape);
        what(what, 4);
        Value v = parse();
        if (v == null) {
            return -1;
        }
        Shape before = state.shapes[shape];
        Shape after = learned(before, v);
        int[] all = {after.paths().size(), 0, 0, 0,
            after.paths().size() > 30 || state.setting == 1 && becameAny ? 1 : 0};
        for (String path : before.paths()) {
            Node n = after.at(path);
            if (n == null) {
                all[3]++;
            } else if (n.kind != before.at(path).kind) {
                all[1]++;
                all[2] += n.kind == 7 ? 1 : 0;
            }
        }
        return all[what];
    }

    private static boolean nodeCovers(Node a, Node b) {
        if (joined(a.kind, b.kind) != a.kind || b.marked && !a.marked) {
            return false;
        }
        if (a.kind == 7) {
            return true;
        }
        for (int key : b.children.keySet()) {
            if (!a.children.containsKey(key)
                    || !nodeCovers(a.children.get(key), b.children.get(key))) {
                return false;
            }
        }
        if (b.kind == 6) {
            for (int key : a.children.keySet()) {
                boolean sure = b.children.containsKey(key) && !b.optional(key);
                if (key < 8 && !a.optional(key) && !sure) {
                    return false;
                }
            }
        }
        return true;
    }

    int covers(int shape) {
        range(shape);
        Node a = state.shapes[shape].root;
        Node b = state.shapes[1 - shape].root;
        return b == null || a != null && nodeCovers(a, b) ? 1 : 0;
    }

    int ifJoined() {
        return union(state.shapes[0], state.shapes[1]).paths().size();
    }

    double sureShare(int shape) {
        range(shape);
        int nodes = state.shapes[shape].paths().size();
        int sure = 0;
        for (int i = 0; i < nodes; i++) {
            boolean unsure = node(shape, i, 5) == 1 || node(shape, i, 0) == 7
                    || node(shape, i, 7) == 1;
            sure += unsure ? 0 : 1;
        }
        return nodes == 0 ? 1.0 : (double) sure / nodes;
    }

    long digest() {
        List<Long> list = new ArrayList<>();
        for (int i = 0; i <= 2; i++) {
            list.add((long) count(i));
        }
        for (int s = 0; s < 2; s++) {
            for (int i = 0; i <= 5; i++) {
                list.add((long) shape(s, i));
            }
            for (int n = 0; n < state.shapes[s].paths().size(); n++) {
                for (int i = 0; i <= 9; i++) {
                    list.add((long) node(s, n, i));
                }
            }
            for (int i = 0; i <= 2; i++) {
                list.add((long) fits(s, i));
            }
            for (int i = 0; i <= 4; i++) {
                list.add((long) ifLearned(s, i));
            }
            list.add((long) covers(s));
            list.add(Double.doubleToLongBits(sureShare(s)));
        }
        list.add((long) ifJoined());
        for (int i = 0; i <= 8; i++) {
            list.add((long) document(i));
        }
        for (char c : buffer.toString().toCharArray()) {
            list.add((long) c);
        }
        long hash = 2707;
        for (long v : list) {
            hash = 31 * hash + v;
        }
        return hash;
    }

    /** The state as words, for a message. */
    String tell() {
        return buffer + " " + state.shapes[0].paths() + " " + Arrays.toString(saved.toArray());
    }
}
