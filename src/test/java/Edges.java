import java.io.IOException;
import java.nio.file.Files;
import java.nio.file.Path;
import java.util.HashSet;
import java.util.Set;

/**
 * What the edge tests share: the sentence of the document that is tested, objects that are made
 * by words, and answers that are compared. The words of an object, with blanks between them:
 * "0(A1)" lets the shape 0 learn "(A1)", "j1" joins the shape 1, "f0" lets the shape 0 forget, "w"
 * swaps, "s1" sets 1, "u" undoes, "<(A" clears the buffer and types "(A".
 */
final class Edges {
    static final String INDEX = "IndexOutOfBoundsException";
    static final String ARGUMENT = "IllegalArgumentException";
    static final String STATE = "IllegalStateException";
    static final String NOT_THROWN = "nothing";

    /** A call on an object, with its answer. */
    interface Call {
        Object on(LearnedShapes x);
    }

    private static final Path DOCUMENT = Path.of("../shared/DOC.md");

    private final String name;
    private final String document;
    private final Set<String> sentences = new HashSet<>();
    private String sentence = "";
    private int since = 1;
    private int passed = 0;
    private int failed = 0;

    Edges(String name) throws IOException {
        this.name = name;
        if (!Files.isReadable(DOCUMENT)) {
            System.out.println("there is no " + DOCUMENT + ", so that no sentence is looked up");
        }
        document = Files.isReadable(DOCUMENT) ? Files.readString(DOCUMENT) : null;
    }

    /** The sentence that the checks behind this call are about; it must stand in the document. */
    void says(String next) {
        startSentence(next, document == null || document.contains(next));
    }

    /** The same for a sentence of a promise, which can stand under others, too. */
    void says(int promise, String next) {
        startSentence("Promise " + promise + ": " + next,
                document == null || section("## Promise " + promise + ":").contains(next));
    }

    private String section(String heading) {
        int start = document.indexOf(heading);
        int end = document.indexOf("\n## ", Math.max(start, 0));
        return start >= 0 && end >= 0 ? document.substring(start, end) : "";
    }

    private void startSentence(String next, boolean isThere) {
        closeSentence();
        sentence = next;
        since = 0;
        if (!isThere) {
            fail("does not stand in " + DOCUMENT);
        }
        if (!sentences.add(next)) {
            fail("is tested in two places");
        }
    }

    private void closeSentence() {
        if (since == 0) {
            fail("has no test");
        }
    }

    private void fail(String what) {
        failed++;
        System.out.println(name + ", \"" + sentence + "\": " + what);
    }

    void same(String call, Object is, Object due) {
        since++;
        if (due.equals(is)) {
            passed++;
        } else {
            fail(call + " answered " + is + ", due is " + due);
        }
    }

    void same(String words, String call, Call made, Object due) {
        same(words + ": " + call, made.on(made(words)), due);
    }

    static LearnedShapes made(String words) {
        LearnedShapes x = new LearnedShapes();
        for (String word : words.trim().split(" +")) {
            if (!word.isEmpty()) {
                act(x, word);
            }
        }
        return x;
    }

    private static void act(LearnedShapes x, String word) {
        char first = word.charAt(0);
        int number = word.length() == 2 ? word.charAt(1) - '0' : 0;
        switch (first) {
            case '0': type(x, word.substring(1)).learn(0); break;
            case '1': type(x, word.substring(1)).learn(1); break;
            case 'j': x.join(number); break;
            case 'f': x.forget(number); break;
            case 'w': x.swap(); break;
            case 's': x.set(number); break;
            case 'u': x.undo(); break;
            case '<': type(x, word.substring(1)); break;
            default: throw new IllegalArgumentException(word);
        }
    }

    static LearnedShapes type(LearnedShapes x, String text) {
        x.clearBuffer();
        for (int i = 0; i < text.length(); i++) {
            x.append(text.charAt(i));
        }
        return x;
    }

    static String thrownBy(LearnedShapes x, Call call) {
        try {
            call.on(x);
            return NOT_THROWN;
        } catch (RuntimeException e) {
            return e.getClass().getSimpleName();
        }
    }

    /** The object's digest, and that behind each undo as long as there is a saved state. */
    static String history(LearnedShapes x) {
        StringBuilder s = new StringBuilder();
        s.append(x.digest());
        for (int left = x.count(2); left > 0; left--) {
            s.append(' ').append(x.undo()).append(' ').append(x.digest());
        }
        return s.toString();
    }

    /** The call throws the exception, and changes neither the state nor what undo brings back. */
    void refused(String words, String call, Call made, String due) {
        LearnedShapes x = made(words);
        same(words + ": " + call + " throws", thrownBy(x, made), due);
        same(words + ": " + call + ", the state then", history(x), history(made(words)));
    }

    /** The call throws nothing, and changes neither the state nor what undo brings back. */
    void looks(String words, String call, Call made) {
        refused(words, call, made, NOT_THROWN);
    }

    /** The call changes the state (or not), and undo brings back that from before it. */
    void undoable(String words, String call, Call made) {
        LearnedShapes x = made(words);
        int saved = x.count(2);
        made.on(x);
        same(words + ": saved states behind " + call, x.count(2), Math.min(saved + 1, 6));
        x.undo();
        LearnedShapes y = made(words);
        x.clearBuffer();
        y.clearBuffer();
        if (saved < 6) {
            same(words + ": the state when " + call + " is undone", history(x), history(y));
        }
    }

    /** The words for a shape 0 that has learnt the text 2147483647 times, and no shape 1. */
    static String grown(String text) {
        return "0" + text + (" f1 j1 j0 0" + text).repeat(30) + " f1";
    }

    /** A property of all nodes of a shape, with blanks between them. */
    static String nodes(LearnedShapes x, int shape, int what) {
        StringBuilder s = new StringBuilder();
        for (int i = 0; i < x.shape(shape, 1); i++) {
            s.append(i == 0 ? "" : " ").append(x.node(shape, i, what));
        }
        return s.toString();
    }

    static String fits(LearnedShapes x, int shape) {
        return x.fits(shape, 0) + " " + x.fits(shape, 1) + " " + x.fits(shape, 2);
    }

    static String ifLearned(LearnedShapes x, int shape) {
        return x.ifLearned(shape, 0) + " " + x.ifLearned(shape, 1) + " " + x.ifLearned(shape, 2)
                + " " + x.ifLearned(shape, 3) + " " + x.ifLearned(shape, 4);
    }

    void end() {
        closeSentence();
        System.out.println(name + ": " + sentences.size() + " sentences, " + passed
                + " answers as due, " + failed + " not");
        if (failed != 0) {
            System.exit(1);
        }
    }
}
