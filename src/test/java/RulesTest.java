import java.io.IOException;
import java.nio.file.Files;
import java.nio.file.Path;
import java.util.ArrayList;
import java.util.List;
import java.util.regex.Matcher;
import java.util.regex.Pattern;

/** Looks for what LANGUAGE.md rules out, as far as a look at the words can tell. */
public final class RulesTest {
    private static final String[] FORBIDDEN = {
        "import", "package", "try", "catch", "finally", "synchronized", "assert", "instanceof",
        "Double", "Float", "Long", "Character", "Object", "System\\.out", "System\\.nano\\w*",
        "System\\.current\\w*", "Random", "Thread", "equals", "hashCode", "toString", "var",
        "\\w*Exact", "protected", "->", "::", "\\+=? *\"", "static \\{"};
    private static final String FACE = "learn join forget swap set append clearBuffer firstError undo node"
            + " child shape document count fits ifLearned covers ifJoined sureShare digest";

    private static final List<String> faults = new ArrayList<>();

    private static void forbiddenWords(String code) {
        for (String word : FORBIDDEN) {
            boolean isWord = Character.isLetter(word.charAt(0)) || word.startsWith("\\w");
            Matcher m = Pattern.compile(isWord ? "\\b" + word + "\\b" : word).matcher(code);
            if (m.find()) {
                faults.add("stands in the program: " + m.group());
            }
        }
    }

    /** A method of the face's name stands only where the face declares it. */
    private static void names(String code) {
        for (String name : FACE.split(" ")) {
            Matcher m = Pattern.compile("(?m)^ +(\\w[\\w \\[\\]]*) " + name + "\\(").matcher(code);
            int found = 0;
            while (m.find()) {
                if (!m.group(1).startsWith("return")) {
                    found++;
                    if (!m.group().startsWith("    public ")) {
                        faults.add("bears the name of a public method: " + m.group());
                    }
                }
            }
            if (found != 1) {
                faults.add(name + " is declared " + found + " times");
            }
        }
        Matcher open = Pattern.compile("(?m)^    (?!public |private |static |\\}|//|/\\*|\\*|throws| )\\S.*$").matcher(code);
        while (open.find()) {
            faults.add("neither public nor private: " + open.group());
        }
    }

    private static void lengths(String code) {
        int start = 0;
        String[] lines = code.split("\n", -1);
        for (int i = 0; i < lines.length; i++) {
            if (lines[i].length() > 100) {
                faults.add("a long line: " + (i + 1));
            }
            if (lines[i].matches(" {4,8}\\S.*\\) ?(throws [\\w, ]+)?\\{")) {
                start = i;
            }
            if (lines[i].matches(" {4,8}\\}") && i - start > 60) {
                faults.add("a long method ends in line " + (i + 1));
            }
        }
    }

    public static void main(String[] args) throws IOException {
        String code = Files.readString(Path.of("src/main/java/LearnedShapes.java"));
        for (char c : code.toCharArray()) {
            if (c > 126) {
                faults.add("a sign beyond 126: " + (int) c);
            }
        }
        String bare = code.replaceAll("(?s)/\\*.*?\\*/", "").replaceAll("//[^\n]*", "");
        forbiddenWords(bare.replaceAll("\"[^\"\n]*\"", "\"\""));
        names(bare);
        lengths(code);
        for (String fault : faults) {
            System.out.println(fault);
        }
        System.out.println("RulesTest: " + faults.size() + " faults");
        if (!faults.isEmpty()) {
            System.exit(1);
        }
    }
}
