import java.io.IOException;

/** Each sentence of the document that names an edge of the texts: documents and the buffer. */
public final class TextEdgeTest {
    private static final String DIGITS = "0123456789";
    private static final String SMALL = "abcdefghijklmnopqrstuvwxyz";
    private static final String PLAIN = "ntf-0123456789'";
    private static final String VALUE = PLAIN + "[(";

    private static Edges edges;

    /** Of all characters just the given ones can stand behind the text. */
    private static void next(String text, String allowed) {
        StringBuilder is = new StringBuilder();
        StringBuilder due = new StringBuilder();
        for (char c = 33; c <= 126; c++) {
            LearnedShapes x = Edges.type(new LearnedShapes(), text + c);
            int error = x.firstError();
            if (error > text.length()) {
                is.append(c);
            } else if (error < text.length()) {
                is.append("?");
            }
            if (allowed.indexOf(c) >= 0) {
                due.append(c);
            }
        }
        edges.same("what can stand behind " + text, is.toString(), due.toString());
    }

    private static void complete(String text) {
        LearnedShapes x = Edges.type(new LearnedShapes(), text);
        edges.same("firstError() of " + text, x.firstError(), text.length());
        edges.same(text + " is complete", x.document(0) > 0, true);
        edges.same(text + " is learnt", Edges.thrownBy(x, y -> y.learn(0)), Edges.NOT_THROWN);
    }

    private static void open(String text) {
        LearnedShapes x = Edges.type(new LearnedShapes(), text);
        edges.same("firstError() of " + text, x.firstError(), text.length());
        edges.same("document(0) of " + text, x.document(0), -1);
        edges.same("learn(0) of " + text, Edges.thrownBy(x, y -> y.learn(0)), Edges.ARGUMENT);
    }

    /** The first error is at the index, whatever stands behind it. */
    private static void wrong(String text, int due) {
        LearnedShapes x = Edges.type(new LearnedShapes(), text);
        edges.same("firstError() of " + text, x.firstError(), due);
        edges.same("document(0) of " + text, x.document(0), -1);
        edges.same("learn(0) of " + text, Edges.thrownBy(x, y -> y.learn(0)), Edges.ARGUMENT);
    }

    /** The last character is the first error. */
    private static void wrong(String text) {
        wrong(text, text.length() - 1);
        wrong(text + ")", text.length() - 1);
    }

    /** The kind of a value is that which the document counts. */
    private static void kind(String value, int due) {
        LearnedShapes x = Edges.type(new LearnedShapes(), "(A" + value + ")");
        StringBuilder s = new StringBuilder();
        for (int kind = 0; kind <= 6; kind++) {
            s.append(x.document(kind + 1));
        }
        StringBuilder d = new StringBuilder("0000001");
        d.setCharAt(due, (char) (d.charAt(due) + 1));
        edges.same("kinds of (A" + value + ")", s.toString(), d.toString());
        complete("(A" + value + ")");
    }

    private static void groupsAlone() {
        edges.says("A document is a group as a text.");
        next("", "(");
        next("()", "");
        next("(A1)", "");
        complete("()");
        open("");
        open("(");
        wrong("[");
        wrong("n");
        wrong("7");
        wrong("'");
        wrong(")");
        wrong("()(");
    }

    private static void plainValues() {
        edges.says("nothing: \"n\"; a flag: \"t\" or \"f\"");
        kind("n", 0);
        kind("t", 1);
        kind("f", 1);
        next("(A", VALUE);
        next("(An", "BCDEFGH)");
        next("(At", "BCDEFGH)");
        next("(Af", "BCDEFGH)");
    }

    private static void wholeNumbers() {
        edges.says("perhaps \"-\", and one to four digits without leading zeros");
        String[] whole = {"0", "9", "10", "99", "100", "999", "1000", "9999", "-1", "-9", "-10",
            "-9999", "-1000", "1001", "-100"};
        for (String value : whole) {
            kind(value, 2);
        }
        next("(A-", DIGITS);
        next("(A0", ".BCDEFGH)");
        next("(A1", DIGITS + ".BCDEFGH)");
        next("(A12", DIGITS + ".BCDEFGH)");
        next("(A999", DIGITS + ".BCDEFGH)");
        next("(A9999", ".BCDEFGH)");
        next("(A-1", DIGITS + ".BCDEFGH)");
        next("(A-999", DIGITS + ".BCDEFGH)");
        next("(A-9999", ".BCDEFGH)");
        wrong("(A00");
        wrong("(A01");
        wrong("(A-)");
        wrong("(A--");
        wrong("(A+");
        wrong("(A12345");
        wrong("(A-12345");
    }

    private static void decimals() {
        edges.says("a decimal: a whole number, \".\", and one or two digits");
        String[] decimals = {"0.0", "0.00", "9.9", "9.99", "9999.9", "9999.99", "-9999.99", "-1.5",
            "1.50", "-0.5", "-0.0", "-0.00", "10.01"};
        for (String value : decimals) {
            kind(value, 3);
        }
        next("(A0.", DIGITS);
        next("(A9999.", DIGITS);
        next("(A1.0", DIGITS + "BCDEFGH)");
        next("(A1.9", DIGITS + "BCDEFGH)");
        next("(A1.23", "BCDEFGH)");
        next("(A-0.00", "BCDEFGH)");
        wrong("(A.");
        wrong("(A-.");
        wrong("(A1.)");
        wrong("(A1.-");
        wrong("(A1.234");
        wrong("(A00.5", 3);
        wrong("(A01.5", 3);
    }

    private static void words() {
        edges.says("and one to five letters \"a\" to \"z\", and \"'\"");
        kind("'a'", 4);
        kind("'z'", 4);
        kind("'az'", 4);
        kind("'abcd'", 4);
        kind("'abcde'", 4);
        kind("'zzzzz'", 4);
        next("(A'", SMALL);
        next("(A'a", SMALL + "'");
        next("(A'abcd", SMALL + "'");
        next("(A'abcde", "'");
        next("(A'a'", "BCDEFGH)");
        wrong("(A''");
        wrong("(A'abcdef");
        wrong("(A'a)");
    }

    private static void rows() {
        edges.says("a row: \"[\", then perhaps values with \",\" between them, and \"]\"");
        kind("[]", 5);
        complete("(A[n])");
        complete("(A[n,1,2.5,'a',t,[],()])");
        complete("(A[n,n,n,n,n,n,n,n,n,n,n,n,n,n,n,n,n,n,n,n,n,n,n,n,n,n,n,n])");
        next("(A[", VALUE + "]");
        next("(A[n", ",]");
        next("(A[n,", VALUE);
        next("(A[1", DIGITS + ".,]");
        next("(A[0", ".,]");
        next("(A[-0.5", DIGITS + ",]");
        next("(A['a'", ",]");
        next("(A[]", "BCDEFGH)");
        next("(A[[]", ",]");
        next("(A[()", ",]");
        wrong("(A[,");
        wrong("(A[1,]");
        wrong("(A[1,,");
        wrong("(A[1)");
    }

    private static void parts() {
        edges.says("a group: \"(\", then any number of parts, and \")\"");
        complete("()");
        complete("(A1)");
        complete("(HnGnFnEnDnCnBnAn)");
        kind("()", 6);
        next("(", "ABCDEFGH)");
        next("(A(", "ABCDEFGH)");
        next("(A()", "BCDEFGH)");
        wrong("(A1,");
        edges.says("A part is a letter, \"A\" to \"H\", and a value");
        complete("(A1H2)");
        wrong("(@");
        wrong("(I");
        wrong("(a");
        wrong("(1");
        wrong("(A)");
        wrong("(AB");
        edges.says("no two parts of a group have the same letter");
        next("(AnBnDnEnFnGnHn", "C)");
        next("(AnBnCnDnEnFnGnHn", ")");
        wrong("(A1A");
        wrong("(A1B2A");
        wrong("(A(B1C2B");
        wrong("(A(A1)A");
        wrong("(A[(B1C1B");
        complete("(A(A(A(A1))))");
        complete("(A[(A1),(A1)]B(A1B2))");
    }

    private static void nesting() {
        edges.says("Groups and rows can stand in one another, but at most 4 of them, the document"
                + " itself among them.");
        complete("(A(B(C())))");
        complete("(A(B(C[])))");
        complete("(A[[[]]])");
        complete("(A[[()]])");
        complete("(A[[[],[]],[[]]]B[[[]]])");
        complete("(A(A(A(A1)B(A1)))B[[[1,2]]])");
        next("(A(B(C", VALUE);
        next("(A(B(C(D", PLAIN);
        next("(A[[", VALUE + "]");
        next("(A[[[", PLAIN + "]");
        next("(A[[[n,", PLAIN);
        next("(A[(B[", PLAIN + "]");
        next("(A[[(B", PLAIN);
        next("(A[[[]],", VALUE);
        wrong("(A(B(C(D(");
        wrong("(A(B(C(D[");
        wrong("(A[[[[");
        wrong("(A[[[(");
    }

    private static void minusZero() {
        edges.says("(\"-0\" is not a whole number, but \"-0.\" begins a decimal.)");
        open("(A-0");
        open("(A-0.");
        next("(A-0", ".");
        next("(A-0.", DIGITS);
        next("(A[-0", ".");
        wrong("(A-0)");
        wrong("(A-0B");
        wrong("(A-00");
        wrong("(A-01");
        wrong("(A[-0,");
        wrong("(A[-0]");
    }

    private static void syntaxErrors() {
        edges.says("a character is a syntax error if no document as a text begins with the"
                + " characters before it and this character");
        wrong("())))", 2);
        wrong("!!", 0);
        wrong("(A1~B", 3);
        wrong("(A1A1A1)", 3);
        edges.says(9, "Returns the index of the first character that is a syntax error; the length of"
                + " the buffer if there is none.");
        open("");
        open("(A[(B");
        open("(AnBnCnDnEnFnGnHn");
        complete("(A1)");
        edges.same("a full buffer without an error", Edges.type(new LearnedShapes(), full())
                .firstError(), 60);
        edges.same("the last of 60 is wrong", Edges.type(new LearnedShapes(), full()
                .substring(1) + "!").firstError(), 0);
        edges.same("the last of 60", Edges.type(new LearnedShapes(), full().substring(0, 59) + "!")
                .firstError(), 59);
        edges.looks("0(A1) <(A1A", "firstError()", x -> x.firstError());
    }

    /** 60 characters that are no complete document, but without an error. */
    private static String full() {
        return "(A[" + "n,".repeat(28) + "n";
    }

    private static void sixtyCharacters() {
        edges.says("The buffer has at most 60 characters.");
        edges.same("append of the 60th", Edges.type(new LearnedShapes(), full().substring(0, 59))
                .append('n'), 60);
        edges.same("count(1)", Edges.type(new LearnedShapes(), full()).count(1), 60);
        String longest = "(A[" + "n,".repeat(27) + "n])";
        edges.same("length of the longest", longest.length(), 60);
        complete(longest);
        LearnedShapes x = Edges.type(new LearnedShapes(), longest);
        edges.same("values of the longest", x.document(0), 30);
        edges.same("buffer behind learn", x.learn(1) + x.count(1), 3);
        edges.same("append behind learn", x.append('('), 1);
    }

    private static void appending() {
        edges.says(7, "Throws `IllegalArgumentException` if code is not 33 to 126");
        int[] wrong = {32, 127, 0, -1, 31, 128, 289, 65569, 2147483647, -2147483648};
        for (int code : wrong) {
            edges.refused("0(A1) <(A", "append(" + code + ")", x -> x.append(code),
                    Edges.ARGUMENT);
            edges.refused("0(A1) <" + full(), "append(" + code + ") to a full buffer",
                    x -> x.append(code), Edges.ARGUMENT);
        }
        edges.same("<(A", "append(33)", x -> x.append(33), 3);
        edges.same("<(A", "append(126)", x -> x.append(126), 3);
        edges.says(7, "Throws `IllegalStateException` if the buffer has 60 characters");
        edges.refused("0(A1) <" + full(), "append(33)", x -> x.append(33), Edges.STATE);
        edges.refused("0(A1) <" + full(), "append(126)", x -> x.append(126), Edges.STATE);
        edges.same("<" + full(), "append when it is cleared", x -> x.clearBuffer() * 100
                + x.append(33), 6001);
        edges.says(7, "Returns the new length of the buffer.");
        LearnedShapes x = new LearnedShapes();
        for (int length = 1; length <= 60; length++) {
            edges.same("append", x.append(33 + length), length);
            edges.same("count(1)", x.count(1), length);
        }
    }

    private static void clearing() {
        edges.says(8, "Clears the buffer.");
        edges.same("<(A1)", "buffer", x -> x.clearBuffer() * 10 + x.count(1), 40);
        edges.same("<(A1)", "next text", x -> x.clearBuffer() * 10 + x.append('('), 41);
        edges.says(8, "Returns the length that it had.");
        edges.same("", "clearBuffer()", x -> x.clearBuffer(), 0);
        edges.same("<(", "clearBuffer()", x -> x.clearBuffer(), 1);
        edges.same("<" + full(), "clearBuffer()", x -> x.clearBuffer(), 60);
        edges.same("<(A", "clearBuffer() again", x -> x.clearBuffer() * 10 + x.clearBuffer(), 20);
        edges.same("0(A1) <(A", "saved states", x -> x.clearBuffer() * 10 + x.count(2), 21);
    }

    private static void numbersOfDocuments() {
        edges.says(14, "0: its values, itself too; 1 to 7: those of the kinds 0 to 6; 8: how many"
                + " groups and rows stand in one another at most");
        tell("()", "1 0 0 0 0 0 0 1 1");
        tell("(An)", "2 1 0 0 0 0 0 1 1");
        tell("(A[])", "2 0 0 0 0 0 1 1 2");
        tell("(A(B(C())))", "4 0 0 0 0 0 0 4 4");
        tell("(A(B(C(D'x'))))", "5 0 0 0 0 1 0 4 4");
        tell("(A[[[t]]]B())", "6 0 1 0 0 0 3 2 4");
        tell("(A()B[[],[]]C0D-0.0E'a')", "8 0 0 1 1 1 3 2 3");
        edges.says(14, "NONE if the buffer is not a complete document as a text");
        String none = "-1 -1 -1 -1 -1 -1 -1 -1 -1";
        tell("", none);
        tell("(", none);
        tell("(A1", none);
        tell("())", none);
        tell("(A1)n", none);
        tell("(A-0)", none);
        edges.says(14, "Throws `IllegalArgumentException` if what is not 0 to 8");
        int[] wrong = {-1, 9, 10, 2147483647, -2147483648};
        for (int what : wrong) {
            edges.refused("0(A1) <(A1)", "document(" + what + ")", x -> x.document(what),
                    Edges.ARGUMENT);
            edges.refused("0(A1) <(A1", "document(" + what + ")", x -> x.document(what),
                    Edges.ARGUMENT);
        }
    }

    private static void tell(String text, String due) {
        LearnedShapes x = Edges.type(new LearnedShapes(), text);
        StringBuilder s = new StringBuilder();
        for (int what = 0; what <= 8; what++) {
            s.append(what == 0 ? "" : " ").append(x.document(what));
        }
        edges.same("document of " + text, s.toString(), due);
    }

    public static void main(String[] args) throws IOException {
        edges = new Edges("TextEdgeTest");
        groupsAlone();
        plainValues();
        wholeNumbers();
        decimals();
        words();
        rows();
        parts();
        nesting();
        minusZero();
        syntaxErrors();
        sixtyCharacters();
        appending();
        clearing();
        numbersOfDocuments();
        edges.end();
    }
}
