import java.util.ArrayList;
import java.util.List;

/** Runs of calls, chosen by a generator of fixed numbers, each answer against that of Model. */
public final class ModelTest {
    private static final String SIGNS = "()[],'nft-.0123456789azABCDEFGHI\"{";

    private static long seed;
    private static int wrong = 0;
    private static int answers = 0;

    private static int any(int below) {
        seed = seed * 6364136223846793005L + 1442695040888963407L;
        return (int) ((seed >>> 33) % below);
    }

    private static String value(int depth, int room, int style) {
        int which = any(depth < 4 ? 14 : 9);
        if (which == 0) {
            return "n";
        }
        if (which == 1) {
            return any(2) == 0 ? "t" : "f";
        }
        if (which <= 4) {
            return new String[] {"0", "7", "-3", "1234", "-9999", "50"}[any(6)];
        }
        if (which <= 6) {
            return new String[] {"0.5", "-0.0", "-0.25", "1234.99", "7.1", "-12.34"}[any(6)];
        }
        if (which <= 8) {
            return new String[] {"'a'", "'hello'", "'zz'", "'abcd'"}[any(4)];
        }
        return which <= 10 ? row(depth, room, style) : group(depth, room, style);
    }

    private static String row(int depth, int room, int style) {
        StringBuilder s = new StringBuilder("[");
        for (int i = any(4); i > 0 && s.length() < room; i--) {
            s.append(s.length() > 1 ? "," : "");
            s.append(style == 0 ? value(depth + 1, room / 2, style) : scalar(style));
        }
        return s.append("]").toString();
    }

    private static String scalar(int style) {
        return style == 1 ? "12" : style == 2 ? "n" : "'w'";
    }

    private static String group(int depth, int room, int style) {
        StringBuilder s = new StringBuilder("(");
        int used = 0;
        for (int i = any(style == 0 ? 9 : 5); i > 0 && s.length() < room; i--) {
            int letter = any(8);
            if ((used >> letter & 1) == 0) {
                used |= 1 << letter;
                s.append((char) ('A' + letter));
                boolean plain = style != 0 && any(4) != 0;
                s.append(plain && (letter > 2 || depth > 2) ? scalar(style)
                        : value(depth + 1, room / 2, style));
            }
        }
        return s.append(")").toString();
    }

    /** A document that makes many nodes: parts with nothing in groups. */
    private static String wide() {
        StringBuilder s = new StringBuilder("(");
        int first = any(8);
        for (int i = 0; i < 3; i++) {
            s.append((char) ('A' + (first + i) % 8)).append("(");
            for (int j = any(4) + 4; j > 0; j--) {
                s.append((char) ('A' + j)).append("n");
            }
            s.append(")");
        }
        return s.append(")").toString();
    }

    private static String text() {
        int kind = any(12);
        String s = kind == 0 ? wide() : group(0 + 1, any(50) + 8, any(4));
        if (any(6) == 0) {
            int at = any(s.length());
            String sign = "" + SIGNS.charAt(any(SIGNS.length()));
            int how = any(3);
            s = s.substring(0, at) + (how == 0 ? "" : sign) + s.substring(how == 1 ? at : at + 1);
        }
        return s;
    }

    private static final class Pair {
        final LearnedShapes program = new LearnedShapes();
        final Model model = new Model();
        final List<String> calls = new ArrayList<>();

        String ask(boolean ofModel, int call, int a, int b, int c) {
            try {
                return ofModel ? answer(model, call, a, b, c) : answer(program, call, a, b, c);
            } catch (IndexOutOfBoundsException | IllegalArgumentException
                    | IllegalStateException e) {
                return e.getClass().getName();
            }
        }

        boolean same(int call, int a, int b, int c) {
            calls.add(call + " " + a + " " + b + " " + c);
            String due = ask(true, call, a, b, c);
            String is = ask(false, call, a, b, c);
            answers++;
            if (!due.equals(is)) {
                wrong++;
                System.out.println("answered " + is + ", due is " + due + ": " + model.tell());
                System.out.println(calls);
            }
            return due.equals(is);
        }
    }

    private static String answer(LearnedShapes x, int call, int a, int b, int c) {
        switch (call) {
            case 0: return "" + x.learn(a);
            case 1: return "" + x.join(a);
            case 2: return "" + x.forget(a);
            case 3: return "" + x.swap();
            case 4: return "" + x.set(a);
            case 5: return "" + x.append(a);
            case 6: return "" + x.clearBuffer();
            case 7: return "" + x.firstError();
            case 8: return "" + x.undo();
            case 9: return "" + x.node(a, b, c);
            case 10: return "" + x.child(a, b, c);
            case 11: return "" + x.shape(a, b);
            case 12: return "" + x.document(a);
            case 13: return "" + x.count(a);
            case 14: return "" + x.fits(a, b);
            case 15: return "" + x.ifLearned(a, b);
            case 16: return "" + x.covers(a);
            case 17: return "" + x.ifJoined();
            case 18: return "" + x.sureShare(a);
            default: return "" + x.digest();
        }
    }

    private static String answer(Model x, int call, int a, int b, int c) {
        switch (call) {
            case 0: return "" + x.learn(a);
            case 1: return "" + x.join(a);
            case 2: return "" + x.forget(a);
            case 3: return "" + x.swap();
            case 4: return "" + x.set(a);
            case 5: return "" + x.append(a);
            case 6: return "" + x.clearBuffer();
            case 7: return "" + x.firstError();
            case 8: return "" + x.undo();
            case 9: return "" + x.node(a, b, c);
            case 10: return "" + x.child(a, b, c);
            case 11: return "" + x.shape(a, b);
            case 12: return "" + x.document(a);
            case 13: return "" + x.count(a);
            case 14: return "" + x.fits(a, b);
            case 15: return "" + x.ifLearned(a, b);
            case 16: return "" + x.covers(a);
            case 17: return "" + x.ifJoined();
            case 18: return "" + x.sureShare(a);
            default: return "" + x.digest();
        }
    }

    private static int odd() {
        int[] odd = {-1, -2, 2, 3, 30, 31, 60, 64, 1000, Integer.MAX_VALUE, Integer.MIN_VALUE};
        return odd[any(odd.length)];
    }

    private static int number(int below) {
        return any(12) == 0 ? odd() : any(below);
    }

    private static boolean change(Pair p, int joins) {
        int which = any(20 + joins);
        boolean same = true;
        if (which < 13) {
            if (any(8) != 0) {
                same = p.same(6, 0, 0, 0);
            }
            String s = text();
            for (int i = 0; same && i < s.length() && i < 64; i++) {
                same = p.same(5, s.charAt(i), 0, 0);
            }
            same = same && p.same(7, 0, 0, 0) && p.same(19, 0, 0, 0);
            return same && (any(5) == 0 || p.same(0, number(2), 0, 0));
        }
        if (which < 14) {
            return p.same(2, number(2), 0, 0);
        }
        if (which < 15) {
            return p.same(3, 0, 0, 0);
        }
        if (which < 16) {
            return p.same(4, number(2), 0, 0);
        }
        if (which < 17) {
            return p.same(8, 0, 0, 0);
        }
        if (which < 18) {
            return p.same(5, any(3) == 0 ? odd() : 30 + any(100), 0, 0);
        }
        return p.same(1, number(2), 0, 0);
    }

    private static boolean look(Pair p) {
        int call = 9 + any(10);
        int a = call == 12 ? number(9) : call == 13 ? number(3) : number(2);
        int b = call <= 10 ? number(12) : call == 11 ? number(6) : call == 14 ? number(3) : number(5);
        return p.same(call, a, b, call == 9 ? number(10) : number(9));
    }

    /** Calls every look with all that it can be asked. */
    private static boolean lookAtAll(Pair p) {
        boolean same = true;
        for (int shape = -1; shape <= 2; shape++) {
            for (int node = -1; node <= 31; node++) {
                for (int what = -1; what <= 10; what++) {
                    same = same && p.same(9, shape, node, what) && p.same(10, shape, node, what);
                }
            }
            for (int what = -1; what <= 9; what++) {
                same = same && p.same(11, shape, what, 0) && p.same(12, what, 0, 0)
                        && p.same(13, what, 0, 0) && p.same(14, shape, what, 0)
                        && p.same(15, shape, what, 0);
            }
            same = same && p.same(16, shape, 0, 0) && p.same(18, shape, 0, 0);
        }
        return same && p.same(17, 0, 0, 0) && p.same(19, 0, 0, 0);
    }

    /** Joins until the numbers have gone beyond those of an int. */
    private static boolean goRound(Pair p) {
        boolean same = change(p, 0) && change(p, 0) && change(p, 0);
        for (int i = 0; same && i < 44 + any(8); i++) {
            same = p.same(1, i % 2, 0, 0) && p.same(19, 0, 0, 0);
        }
        return same;
    }

    private static void run(int number) {
        seed = number * 7919L + 1;
        Pair p = new Pair();
        int joins = number % 4 == 0 ? 25 : number % 4 == 1 ? 4 : 0;
        boolean same = number % 8 != 7 || goRound(p);
        for (int i = 0; same && i < 60; i++) {
            same = change(p, joins) && p.same(19, 0, 0, 0) && look(p);
        }
        if (same && number % 50 == 0) {
            lookAtAll(p);
        }
    }

    public static void main(String[] args) {
        int runs = args.length > 0 ? Integer.parseInt(args[0]) : 500;
        for (int i = 0; i < runs && wrong == 0; i++) {
            run(i);
        }
        System.out.println("ModelTest: " + answers + " answers, " + wrong + " not as due");
        if (wrong != 0) {
            System.exit(1);
        }
    }
}
