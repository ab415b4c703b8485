/** Shapes learnt from unlike documents; README.md tells how to use it. */
public final class LearnedShapes {

    /** There is nothing to return. */
    public static final int NONE = -1;

    private static final int MOST_CODES = 60;
    private static final int MOST_NODES = 30;
    private static final int MOST_NESTED = 4;
    private static final int MOST_SAVED = 6;

    private static final int NOTHING = 0;
    private static final int FLAG = 1;
    private static final int WHOLE = 2;
    private static final int DECIMAL = 3;
    private static final int WORD = 4;
    private static final int ROW = 5;
    private static final int GROUP = 6;
    private static final int ANY = 7;

    private static final int LETTERS = 8;
    /** Stands where a letter would, for what is in a row. */
    private static final int IN_ROW = 8;

    // The fields of a place in a tree, first those of every tree.
    private static final int KIND = 0;
    private static final int LETTER = 1;
    private static final int DEPTH = 2;
    // Those of a node.
    private static final int VALUES = 3;
    private static final int MARK = 4;
    private static final int GROUPS = 5;
    private static final int MADE = 6;
    private static final int ORIGIN = 7;
    private static final int OPTIONAL = 8;
    // Those of a value of the document.
    private static final int START = 3;
    private static final int END = 4;
    private static final int PARENT = 5;
    private static final int USED = 6;
    private static final int SHOWN_TO = 7;

    private static final int WRONG_KIND = 1;
    private static final int NO_CHILD = 2;
    private static final int MISSING = 3;

    private final int[] codes = new int[MOST_CODES];
    private int length;
    private final Reader reader = new Reader();
    private final State now = new State();
    private final State[] saved = new State[MOST_SAVED];
    private int savedStates;
    private final Tree work = new Tree();
    private final Misfit misfit = new Misfit();

    public LearnedShapes() {
        for (int i = 0; i < saved.length; i++) {
            saved[i] = new State();
        }
    }

    // ---- learning

    public int learn(int shape)
            throws IndexOutOfBoundsException, IllegalArgumentException, IllegalStateException {
        if (!isShape(shape)) {
            throw new IndexOutOfBoundsException("no such shape");
        }
        if (!reader.read(codes, length)) {
            throw new IllegalArgumentException("the buffer is no complete document");
        }
        Tree tree = now.tree(shape);
        workOutLearned(tree);
        if (isRefused(tree)) {
            throw new IllegalStateException("the document is refused");
        }
        saveState();
        takeWork(tree);
        length = 0;
        return tree.size;
    }

    public int join(int shape) throws IndexOutOfBoundsException, IllegalStateException {
        if (!isShape(shape)) {
            throw new IndexOutOfBoundsException("no such shape");
        }
        Tree tree = now.tree(shape);
        workOutJoined(tree, now.tree(1 - shape));
        if (work.size > MOST_NODES) {
            throw new IllegalStateException("too many nodes");
        }
        saveState();
        takeWork(tree);
        return tree.size;
    }

    public int forget(int shape) throws IndexOutOfBoundsException {
        if (!isShape(shape)) {
            throw new IndexOutOfBoundsException("no such shape");
        }
        saveState();
        Tree tree = now.tree(shape);
        int nodes = tree.size;
        tree.clear();
        return nodes;
    }

    public int swap() {
        saveState();
        work.copyFrom(now.first);
        now.first.copyFrom(now.second);
        now.second.copyFrom(work);
        return now.first.size;
    }

    public int set(int value) throws IllegalArgumentException {
        if (value < 0 || value > 1) {
            throw new IllegalArgumentException("value is out of range");
        }
        saveState();
        int previous = now.setting;
        now.setting = value;
        return previous;
    }

    // ---- texts

    public int append(int code) throws IllegalArgumentException, IllegalStateException {
        if (code < 33 || code > 126) {
            throw new IllegalArgumentException("code is not 33 to 126");
        }
        if (length < 0 || length >= codes.length) {
            throw new IllegalStateException("the buffer is full");
        }
        codes[length] = code;
        length++;
        return length;
    }

    public int clearBuffer() {
        int previous = length;
        length = 0;
        return previous;
    }

    public int firstError() {
        reader.read(codes, length);
        return reader.firstWrong;
    }

    public int undo() throws IllegalStateException {
        State latest = savedAt(savedStates - 1);
        if (savedStates <= 0 || latest == null) {
            throw new IllegalStateException("there is no saved state");
        }
        now.copyFrom(latest);
        savedStates--;
        return savedStates;
    }

    // ---- looks; nothing is changed

    public int node(int shape, int node, int what)
            throws IndexOutOfBoundsException, IllegalArgumentException {
        if (!isShape(shape) || !now.tree(shape).has(node)) {
            throw new IndexOutOfBoundsException("no such shape or node");
        }
        if (what < 0 || what > 9) {
            throw new IllegalArgumentException("what is not 0 to 9");
        }
        return nodeNumber(now.tree(shape), node, what);
    }

    public int child(int shape, int node, int letter)
            throws IndexOutOfBoundsException, IllegalArgumentException {
        if (!isShape(shape) || !now.tree(shape).has(node)) {
            throw new IndexOutOfBoundsException("no such shape or node");
        }
        if (letter < 0 || letter > IN_ROW) {
            throw new IllegalArgumentException("letter is out of range");
        }
        return now.tree(shape).findBelow(node, letter);
    }

    public int shape(int shape, int what)
            throws IndexOutOfBoundsException, IllegalArgumentException {
        if (!isShape(shape)) {
            throw new IndexOutOfBoundsException("no such shape");
        }
        if (what < 0 || what > 5) {
            throw new IllegalArgumentException("what is not 0 to 5");
        }
        return shapeNumber(now.tree(shape), what);
    }

    public int document(int what) throws IllegalArgumentException {
        if (what < 0 || what > 8) {
            throw new IllegalArgumentException("what is not 0 to 8");
        }
        return reader.read(codes, length) ? documentNumber(what) : NONE;
    }

    public int count(int what) throws IllegalArgumentException {
        if (what < 0 || what > 2) {
            throw new IllegalArgumentException("what is not 0 to 2");
        }
        return stateNumber(what);
    }

    // ---- what would be; nothing is changed

    public int fits(int shape, int what)
            throws IndexOutOfBoundsException, IllegalArgumentException {
        if (!isShape(shape)) {
            throw new IndexOutOfBoundsException("no such shape");
        }
        if (what < 0 || what > 2) {
            throw new IllegalArgumentException("what is not 0 to 2");
        }
        if (!reader.read(codes, length)) {
            return NONE;
        }
        seekMisfit(now.tree(shape));
        return misfitNumber(what);
    }

    public int ifLearned(int shape, int what)
            throws IndexOutOfBoundsException, IllegalArgumentException {
        if (!isShape(shape)) {
            throw new IndexOutOfBoundsException("no such shape");
        }
        if (what < 0 || what > 4) {
            throw new IllegalArgumentException("what is not 0 to 4");
        }
        if (!reader.read(codes, length)) {
            return NONE;
        }
        workOutLearned(now.tree(shape));
        return outlookNumber(now.tree(shape), what);
    }

    public int covers(int shape) throws IndexOutOfBoundsException {
        if (!isShape(shape)) {
            throw new IndexOutOfBoundsException("no such shape");
        }
        return coversOther(shape) ? 1 : 0;
    }

    public int ifJoined() {
        workOutJoined(now.first, now.second);
        return work.size;
    }

    public double sureShare(int shape) throws IndexOutOfBoundsException {
        if (!isShape(shape)) {
            throw new IndexOutOfBoundsException("no such shape");
        }
        return shareOfSure(now.tree(shape));
    }

    public long digest() {
        boolean complete = reader.read(codes, length);
        long hash = 2707L;
        for (int what = 0; what <= 2; what++) {
            hash = 31L * hash + stateNumber(what);
        }
        hash = digestShape(hash, 0, complete);
        hash = digestShape(hash, 1, complete);
        workOutJoined(now.first, now.second);
        hash = 31L * hash + work.size;
        for (int what = 0; what <= 8; what++) {
            hash = 31L * hash + (complete ? documentNumber(what) : NONE);
        }
        for (int i = 0; i < length && i < codes.length; i++) {
            hash = 31L * hash + codes[i];
        }
        return hash;
    }

    private long digestShape(long start, int shape, boolean complete) {
        Tree tree = now.tree(shape);
        long hash = digestNodes(start, tree);
        if (complete) {
            seekMisfit(tree);
            workOutLearned(tree);
        }
        for (int what = 0; what <= 2; what++) {
            hash = 31L * hash + (complete ? misfitNumber(what) : NONE);
        }
        for (int what = 0; what <= 4; what++) {
            hash = 31L * hash + (complete ? outlookNumber(tree, what) : NONE);
        }
        hash = 31L * hash + (coversOther(shape) ? 1 : 0);
        return 31L * hash + bitsOfShare(shareOfSure(tree));
    }

    private static long digestNodes(long start, Tree tree) {
        long hash = start;
        for (int what = 0; what <= 5; what++) {
            hash = 31L * hash + shapeNumber(tree, what);
        }
        for (int node = 0; node < tree.size; node++) {
            for (int what = 0; what <= 9; what++) {
                hash = 31L * hash + nodeNumber(tree, node, what);
            }
        }
        return hash;
    }

    /** The bits of a double from 0.0 to 1.0, as the library's Double would tell them. */
    private static long bitsOfShare(double share) {
        if (!(share > 0.0)) {
            return 0L;
        }
        double scaled = share;
        long exponent = 1023L;
        // a share is at least 1 / 30, so that five steps are enough
        for (int i = 0; i < 64 && scaled < 1.0; i++) {
            scaled = scaled * 2.0;
            exponent--;
        }
        return (exponent << 52) + (long) ((scaled - 1.0) * 4503599627370496.0);
    }

    private static boolean isShape(int shape) {
        return shape == 0 || shape == 1;
    }

    // ---- the state

    private State savedAt(int index) {
        return index >= 0 && index < saved.length ? saved[index] : null;
    }

    private void saveState() {
        if (savedStates >= saved.length) {
            dropOldest();
        }
        State free = savedAt(savedStates);
        if (free != null) {
            free.copyFrom(now);
            savedStates++;
        }
    }

    private void dropOldest() {
        State oldest = savedAt(0);
        for (int i = 1; i < saved.length; i++) {
            saved[i - 1] = saved[i];
        }
        if (saved.length > 0) {
            saved[saved.length - 1] = oldest;
            savedStates--;
        }
    }

    private void takeWork(Tree tree) {
        work.markOptional();
        tree.copyFrom(work);
    }

    // ---- numbers

    private static int nodeNumber(Tree tree, int node, int what) {
        switch (what) {
            case 0: return tree.get(node, KIND);
            case 1: return tree.get(node, LETTER);
            case 2: return tree.above(node);
            case 3: return tree.get(node, DEPTH);
            case 4: return tree.get(node, VALUES);
            case 5: return tree.get(node, MARK);
            case 6: return tree.get(node, GROUPS);
            case 7: return tree.get(node, OPTIONAL);
            case 8: return tree.get(node, MADE);
            default: return tree.countBelow(node);
        }
    }

    private static int shapeNumber(Tree tree, int what) {
        if (what == 0) {
            return tree.documents;
        }
        if (what == 1) {
            return tree.size;
        }
        int number = what == 5 ? NONE : 0;
        for (int node = 0; node < tree.size; node++) {
            if (what == 5) {
                number = Math.max(number, tree.get(node, DEPTH));
            } else if (what == 2 && tree.get(node, KIND) == ANY
                    || what == 3 && tree.get(node, OPTIONAL) == 1
                    || what == 4 && tree.get(node, MARK) == 1) {
                number++;
            }
        }
        return number;
    }

    private int documentNumber(int what) {
        Tree values = reader.values;
        int number = 0;
        for (int value = 0; value < values.size; value++) {
            int kind = values.get(value, KIND);
            if (what == 8) {
                boolean holds = kind == ROW || kind == GROUP;
                number = holds ? Math.max(number, values.get(value, DEPTH) + 1) : number;
            } else if (what == 0 || kind == what - 1) {
                number++;
            }
        }
        return number;
    }

    private int stateNumber(int what) {
        return what == 0 ? now.setting : what == 1 ? length : savedStates;
    }

    private int misfitNumber(int what) {
        return what == 0 ? misfit.reason : what == 1 ? misfit.place : misfit.nodeNumber;
    }

    private static double shareOfSure(Tree tree) {
        if (tree.size <= 0) {
            return 1.0;
        }
        int sure = 0;
        for (int node = 0; node < tree.size; node++) {
            if (tree.get(node, MARK) == 0 && tree.get(node, KIND) != ANY
                    && tree.get(node, OPTIONAL) == 0) {
                sure++;
            }
        }
        return (double) sure / (double) tree.size;
    }

    private static int joinKinds(int one, int other) {
        if (one == other || other == NOTHING) {
            return one;
        }
        if (one == NOTHING) {
            return other;
        }
        if (one > WORD || other > WORD) {
            return ANY;
        }
        return one == FLAG || other == FLAG || one == WORD || other == WORD ? WORD : DECIMAL;
    }

    // ---- learning a document

    /** Puts into work what the shape would be with the document in the reader. */
    private void workOutLearned(Tree tree) {
        Tree values = reader.values;
        work.copyFrom(tree);
        work.documents = tree.documents + 1;
        for (int node = 0; node < work.size; node++) {
            work.put(node, ORIGIN, node);
        }
        int many = values.size;
        for (int value = 0; value < many; value++) {
            showValue(values, value);
        }
    }

    private void showValue(Tree values, int value) {
        int parent = values.get(value, PARENT);
        // what is shown changes no number ahead of it, so that this one still holds
        int above = parent == NONE ? NONE : values.get(parent, SHOWN_TO);
        values.put(value, SHOWN_TO, NONE);
        if (parent != NONE && above == NONE) {
            return;
        }
        int letter = values.get(value, LETTER);
        int node = parent != NONE ? work.findBelow(above, letter) : work.size > 0 ? 0 : NONE;
        boolean isNew = node == NONE;
        if (isNew) {
            node = work.insertBelow(above, letter);
        }
        int kind = values.get(value, KIND);
        int joined = isNew ? kind : joinKinds(work.get(node, KIND), kind);
        work.put(node, VALUES, work.get(node, VALUES) + 1);
        if (kind == GROUP) {
            work.put(node, GROUPS, work.get(node, GROUPS) + 1);
        }
        if (kind == NOTHING) {
            work.put(node, MARK, 1);
        }
        if (isNew || joined != work.get(node, KIND)) {
            work.put(node, KIND, joined);
            work.put(node, MADE, work.documents);
        }
        if (joined == ANY) {
            work.dropBelow(node);
        } else {
            values.put(value, SHOWN_TO, node);
        }
    }

    private boolean isRefused(Tree before) {
        return work.size > MOST_NODES || now.setting == 1 && bringsAny(before);
    }

    private boolean bringsAny(Tree before) {
        for (int node = 0; node < work.size; node++) {
            int origin = work.get(node, ORIGIN);
            if (work.get(node, KIND) == ANY
                    && (origin == NONE || before.get(origin, KIND) != ANY)) {
                return true;
            }
        }
        return false;
    }

    /** Compares the shape with what it would be, which workOutLearned has put into work. */
    private int outlookNumber(Tree before, int what) {
        if (what == 0) {
            return work.size;
        }
        if (what == 4) {
            return isRefused(before) ? 1 : 0;
        }
        int stay = 0;
        int changed = 0;
        int changedToAny = 0;
        for (int node = 0; node < work.size; node++) {
            int origin = work.get(node, ORIGIN);
            int kind = work.get(node, KIND);
            if (origin != NONE) {
                stay++;
                boolean differs = kind != before.get(origin, KIND);
                changed += differs ? 1 : 0;
                changedToAny += differs && kind == ANY ? 1 : 0;
            }
        }
        return what == 1 ? changed : what == 2 ? changedToAny : before.size - stay;
    }

    // ---- joining shapes

    /** Puts into work what the shape would be, joined with the other one. */
    private void workOutJoined(Tree own, Tree other) {
        work.clear();
        work.documents = own.documents + other.documents;
        if (own.size > 0 || other.size > 0) {
            joinNodes(work, own, own.size > 0 ? 0 : NONE, other, other.size > 0 ? 0 : NONE, 0);
        }
    }

    /** Of the two nodes one may be NONE: what a tree tells of that is 0. */
    private static void joinNodes(Tree to, Tree own, int ownNode, Tree other, int otherNode,
            int depth) {
        if (depth > MOST_NESTED) {
            return;
        }
        boolean isOwn = ownNode != NONE;
        int ownKind = own.get(ownNode, KIND);
        int kind = joinKinds(ownKind, other.get(otherNode, KIND));
        boolean stays = isOwn && kind == ownKind;
        int letter = isOwn ? own.get(ownNode, LETTER) : other.get(otherNode, LETTER);
        int node = to.addRow(letter, depth);
        to.put(node, KIND, kind);
        to.put(node, VALUES, own.get(ownNode, VALUES) + other.get(otherNode, VALUES));
        to.put(node, MARK, Math.max(own.get(ownNode, MARK), other.get(otherNode, MARK)));
        to.put(node, GROUPS, own.get(ownNode, GROUPS) + other.get(otherNode, GROUPS));
        to.put(node, MADE, stays ? own.get(ownNode, MADE)
                : own.documents + other.get(otherNode, MADE));
        if (kind == ANY) {
            return;
        }
        for (int below = 0; below <= IN_ROW; below++) {
            int ownBelow = own.findBelow(ownNode, below);
            int otherBelow = other.findBelow(otherNode, below);
            if (ownBelow != NONE || otherBelow != NONE) {
                joinNodes(to, own, ownBelow, other, otherBelow, depth + 1);
            }
        }
    }

    // ---- covering

    private boolean coversOther(int shape) {
        Tree own = now.tree(shape);
        Tree other = now.tree(1 - shape);
        if (own.size == 0 || other.size == 0) {
            return other.size == 0;
        }
        return coversNode(own, 0, other, 0, 0);
    }

    private static boolean coversNode(Tree own, int ownNode, Tree other, int otherNode,
            int depth) {
        if (depth > MOST_NESTED) {
            return false;
        }
        int kind = own.get(ownNode, KIND);
        int otherKind = other.get(otherNode, KIND);
        if (joinKinds(kind, otherKind) != kind
                || other.get(otherNode, MARK) > own.get(ownNode, MARK)) {
            return false;
        }
        if (kind == ANY) {
            return true;
        }
        for (int letter = 0; letter <= IN_ROW; letter++) {
            int below = own.findBelow(ownNode, letter);
            int otherBelow = other.findBelow(otherNode, letter);
            if (otherBelow != NONE && (below == NONE
                    || !coversNode(own, below, other, otherBelow, depth + 1))) {
                return false;
            }
            if (otherKind == GROUP && mustBeThere(own, below)
                    && !mustBeThere(other, otherBelow)) {
                return false;
            }
        }
        return true;
    }

    private static boolean mustBeThere(Tree tree, int node) {
        return tree.has(node) && tree.get(node, LETTER) < LETTERS
                && tree.get(node, OPTIONAL) == 0;
    }

    // ---- fitting

    private void seekMisfit(Tree tree) {
        misfit.tell(0, NONE, NONE);
        if (tree.size == 0) {
            misfit.tell(WRONG_KIND, 0, NONE);
        } else {
            fitsNode(misfit, reader.values, 0, tree, 0, 0);
        }
    }

    /** Tells the first misfit, and answers false, if the value does not fit the node. */
    private static boolean fitsNode(Misfit misfit, Tree values, int value, Tree tree, int node,
            int depth) {
        if (depth > MOST_NESTED) {
            return false;
        }
        int kind = values.get(value, KIND);
        int nodeKind = tree.get(node, KIND);
        boolean fitting = kind == NOTHING ? tree.get(node, MARK) == 1
                : joinKinds(nodeKind, kind) == nodeKind;
        if (!fitting) {
            return misfit.tell(WRONG_KIND, values.get(value, START), node);
        }
        if (kind == NOTHING || nodeKind == ANY) {
            return true;
        }
        int behind = values.behind(value);
        for (int below = value + 1; below < behind; below++) {
            if (values.get(below, PARENT) == value) {
                int letter = values.get(below, LETTER);
                int child = tree.findBelow(node, letter);
                if (child == NONE) {
                    int start = values.get(below, START);
                    return misfit.tell(NO_CHILD, letter == IN_ROW ? start : start - 1, node);
                }
                if (!fitsNode(misfit, values, below, tree, child, depth + 1)) {
                    return false;
                }
            }
        }
        if (kind == GROUP && lacksPart(values.get(value, USED), tree, node)) {
            return misfit.tell(MISSING, values.get(value, END), node);
        }
        return true;
    }

    /** Whether a part that cannot be missing is not among the used letters, a bit for each. */
    private static boolean lacksPart(int used, Tree tree, int node) {
        for (int letter = 0; letter < LETTERS; letter++) {
            if ((used & 1 << letter) == 0 && mustBeThere(tree, tree.findBelow(node, letter))) {
                return true;
            }
        }
        return false;
    }

    /** The first misfit that was found: its reason is 0 if there is none. */
    private static final class Misfit {
        private int reason;
        private int place;
        private int nodeNumber;

        /** Always false, so that who finds a misfit can answer with it. */
        boolean tell(int newReason, int newPlace, int newNode) {
            reason = newReason;
            place = newPlace;
            nodeNumber = newNode;
            return false;
        }
    }

    /** What undo brings back. */
    private static final class State {
        final Tree first = new Tree();
        final Tree second = new Tree();
        int setting;

        Tree tree(int number) {
            return number == 0 ? first : second;
        }

        void copyFrom(State other) {
            first.copyFrom(other.first);
            second.copyFrom(other.second);
            setting = other.setting;
        }
    }

    /**
     * The nodes of a shape or the values of a document, each ahead of its children. A row that is
     * not there tells 0 in every field, and keeps nothing.
     */
    private static final class Tree {
        private static final int WIDTH = 9;
        // two full shapes, or a full one and a document of 60 characters, are at most 60 rows
        private static final int MOST_ROWS = 64;

        private final int[] cells = new int[MOST_ROWS * WIDTH];
        int size;
        int documents;

        boolean has(int row) {
            return row >= 0 && row < size;
        }

        int get(int row, int field) {
            int place = row * WIDTH + field;
            boolean isThere = row >= 0 && row < size && place >= 0 && place < cells.length;
            return isThere ? cells[place] : 0;
        }

        void put(int row, int field, int value) {
            int place = row * WIDTH + field;
            if (row >= 0 && row < size && place >= 0 && place < cells.length) {
                cells[place] = value;
            }
        }

        void clear() {
            size = 0;
            documents = 0;
        }

        void copyFrom(Tree other) {
            moveCells(other.cells, 0, cells, 0, other.size);
            size = other.size;
            documents = other.documents;
        }

        private static void moveCells(int[] from, int fromRow, int[] to, int toRow, int rows) {
            int start = fromRow * WIDTH;
            int target = toRow * WIDTH;
            int many = rows * WIDTH;
            if (start >= 0 && target >= 0 && many > 0 && many <= from.length - start
                    && many <= to.length - target) {
                System.arraycopy(from, start, to, target, many);
            }
        }

        /** The first row that is behind all below the given one. */
        int behind(int row) {
            int depth = get(row, DEPTH);
            int next = row + 1;
            while (next < size && get(next, DEPTH) > depth) {
                next++;
            }
            return next;
        }

        int above(int row) {
            int depth = get(row, DEPTH) - 1;
            int previous = row - 1;
            while (previous >= 0 && get(previous, DEPTH) > depth) {
                previous--;
            }
            return previous < 0 ? NONE : previous;
        }

        int countBelow(int row) {
            int depth = get(row, DEPTH) + 1;
            int behind = behind(row);
            int number = 0;
            for (int next = row + 1; next < behind; next++) {
                number += get(next, DEPTH) == depth ? 1 : 0;
            }
            return number;
        }

        int findBelow(int row, int letter) {
            if (!has(row)) {
                return NONE;
            }
            int depth = get(row, DEPTH) + 1;
            for (int next = row + 1; next < size && get(next, DEPTH) >= depth; next++) {
                if (get(next, DEPTH) == depth && get(next, LETTER) == letter) {
                    return next;
                }
            }
            return NONE;
        }

        /** Makes a child in the order of letters; below NONE the first row. */
        int insertBelow(int row, int letter) {
            int depth = has(row) ? get(row, DEPTH) + 1 : 0;
            int next = has(row) ? row + 1 : 0;
            while (next < size && get(next, DEPTH) >= depth
                    && (get(next, DEPTH) > depth || get(next, LETTER) < letter)) {
                next++;
            }
            if (size >= MOST_ROWS) {
                return NONE;
            }
            moveCells(cells, next, cells, next + 1, size - next);
            size++;
            startRow(next, letter, depth);
            return next;
        }

        /** Makes a row behind all others. */
        int addRow(int letter, int depth) {
            if (size >= MOST_ROWS) {
                return NONE;
            }
            size++;
            startRow(size - 1, letter, depth);
            return size - 1;
        }

        private void startRow(int row, int letter, int depth) {
            for (int field = 0; field < WIDTH; field++) {
                put(row, field, 0);
            }
            put(row, LETTER, letter);
            put(row, DEPTH, depth);
            put(row, ORIGIN, NONE);
        }

        void dropBelow(int row) {
            int behind = behind(row);
            moveCells(cells, behind, cells, row + 1, size - behind);
            size = size - (behind - row - 1);
        }

        /** Marks the parts that can be missing: to be called when all numbers stand. */
        void markOptional() {
            for (int row = 0; row < size; row++) {
                int letter = get(row, LETTER);
                boolean isPart = letter >= 0 && letter < LETTERS;
                boolean isFewer = get(row, VALUES) < get(above(row), GROUPS);
                put(row, OPTIONAL, isPart && isFewer ? 1 : 0);
            }
        }
    }

    /** Reads a document as a text, up to the first syntax error. */
    private static final class Reader {
        // What the next character meets.
        private static final int AT_DOCUMENT = 0;
        private static final int AT_PART = 1;
        private static final int AT_VALUE = 2;
        private static final int AT_FIRST_VALUE = 3;
        private static final int BEHIND_VALUE = 4;
        private static final int BEHIND_MINUS = 5;
        private static final int BEHIND_MINUS_ZERO = 6;
        private static final int BEHIND_ZERO = 7;
        private static final int IN_WHOLE = 8;
        private static final int BEHIND_POINT = 9;
        private static final int IN_PLACES = 10;
        private static final int IN_WORD = 11;
        private static final int BEHIND_DOCUMENT = 12;

        private static final int MOST_DIGITS = 4;
        private static final int MOST_PLACES = 2;
        private static final int MOST_SIGNS = 5;

        private final Tree values = new Tree();
        private int firstWrong;
        private int place;
        private int state;
        /** The group or row that is open, NONE outside of all. */
        private int open;
        private int letter;
        /** How many digits of a number, or signs of a word, stand there. */
        private int run;

        /** Whether what stands there is a complete document, which is in values then. */
        boolean read(int[] codes, int length) {
            values.clear();
            state = AT_DOCUMENT;
            open = NONE;
            letter = NONE;
            run = 0;
            firstWrong = length;
            for (int i = 0; i < length && i < codes.length; i++) {
                place = i;
                if (!take(codes[i])) {
                    firstWrong = i;
                    return false;
                }
            }
            return state == BEHIND_DOCUMENT;
        }

        private boolean take(int code) {
            if (endsNumber(code)) {
                state = stateBehindValue();
            }
            switch (state) {
                case AT_DOCUMENT: return code == '(' && takeValue(code);
                case AT_PART: return takePart(code);
                case AT_VALUE: return takeValue(code);
                case AT_FIRST_VALUE: return code == ']' ? closeValue() : takeValue(code);
                case BEHIND_VALUE: return code == ']' ? closeValue() : takeComma(code);
                case IN_WORD: return takeInWord(code);
                case BEHIND_DOCUMENT: return false;
                default: return takeInNumber(code);
            }
        }

        private boolean endsNumber(int code) {
            boolean canEnd = state == BEHIND_ZERO || state == IN_WHOLE || state == IN_PLACES;
            boolean goesOn = isDigit(code) || code == '.';
            return canEnd && !goesOn;
        }

        private boolean takePart(int code) {
            if (code == ')') {
                return closeValue();
            }
            if (code < 'A' || code >= 'A' + LETTERS) {
                return false;
            }
            letter = code - 'A';
            int used = values.get(open, USED);
            int bit = 1 << letter;
            values.put(open, USED, used | bit);
            state = AT_VALUE;
            return (used & bit) == 0;
        }

        private boolean takeComma(int code) {
            state = AT_VALUE;
            return code == ',';
        }

        private boolean takeValue(int code) {
            int kind = kindAt(code);
            boolean holds = kind == ROW || kind == GROUP;
            if (kind == NONE || holds && depthOfNext() >= MOST_NESTED) {
                return false;
            }
            boolean inRow = values.get(open, KIND) == ROW;
            int value = values.addRow(inRow ? IN_ROW : letter, depthOfNext());
            values.put(value, KIND, kind);
            values.put(value, START, place);
            values.put(value, PARENT, open);
            open = holds ? value : open;
            run = kind == WHOLE ? 1 : 0;
            state = stateInValue(kind, code);
            return true;
        }

        private int stateInValue(int kind, int code) {
            switch (kind) {
                case GROUP: return AT_PART;
                case ROW: return AT_FIRST_VALUE;
                case WORD: return IN_WORD;
                case WHOLE:
                    return code == '-' ? BEHIND_MINUS : code == '0' ? BEHIND_ZERO : IN_WHOLE;
                default: return stateBehindValue();
            }
        }

        /** The kind of a value by its first character: that of a number is whole at first. */
        private static int kindAt(int code) {
            switch (code) {
                case '(': return GROUP;
                case '[': return ROW;
                case '\'': return WORD;
                case 'n': return NOTHING;
                case 't': return FLAG;
                case 'f': return FLAG;
                default: return code == '-' || isDigit(code) ? WHOLE : NONE;
            }
        }

        private static boolean isDigit(int code) {
            return code >= '0' && code <= '9';
        }

        private boolean takeInWord(int code) {
            if (code == '\'' && run > 0) {
                state = stateBehindValue();
                return true;
            }
            run++;
            return run <= MOST_SIGNS && code >= 'a' && code <= 'z';
        }

        private boolean takeInNumber(int code) {
            if (code == '.') {
                return takePoint();
            }
            switch (state) {
                case BEHIND_MINUS:
                    state = code == '0' ? BEHIND_MINUS_ZERO : IN_WHOLE;
                    return isDigit(code);
                case IN_WHOLE:
                    run++;
                    return run <= MOST_DIGITS && isDigit(code);
                case BEHIND_POINT:
                    state = IN_PLACES;
                    return isDigit(code);
                case IN_PLACES:
                    run++;
                    return run <= MOST_PLACES && isDigit(code);
                default:
                    return false;
            }
        }

        private boolean takePoint() {
            boolean isBehindWhole = state == BEHIND_MINUS_ZERO || state == BEHIND_ZERO
                    || state == IN_WHOLE;
            values.put(values.size - 1, KIND, DECIMAL);
            state = BEHIND_POINT;
            run = 1;
            return isBehindWhole;
        }

        private int stateBehindValue() {
            if (open == NONE) {
                return BEHIND_DOCUMENT;
            }
            return values.get(open, KIND) == GROUP ? AT_PART : BEHIND_VALUE;
        }

        private boolean closeValue() {
            values.put(open, END, place);
            open = values.get(open, PARENT);
            state = stateBehindValue();
            return true;
        }

        private int depthOfNext() {
            return open == NONE ? 0 : values.get(open, DEPTH) + 1;
        }
    }
}
