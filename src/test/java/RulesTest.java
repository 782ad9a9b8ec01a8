import java.io.IOException;
import java.nio.charset.StandardCharsets;
import java.nio.file.Files;
import java.nio.file.Path;
import java.util.ArrayList;
import java.util.List;
import java.util.regex.Matcher;
import java.util.regex.Pattern;

/** The rules of LANGUAGE.md that can be seen in the text of the class. Run it from the project's folder. */
public final class RulesTest {
    private static final int MOST_LINES = 60;
    private static final int MOST_CLASSES = 12;
    private static final int MOST_PARAMETERS = 7;

    public static void main(String[] args) throws IOException {
        String text = Files.readString(Path.of("src/main/java/MillstreamPayments.java"), StandardCharsets.UTF_8);
        String code = withoutComments(text);
        String bare = code.replaceAll("\"[^\"]*\"", "\"\"");
        none("4 another import", code, "import (?!java\\.util\\.(ArrayList|List|Arrays|Iterator);)");
        none("1 a package line", code, "(?m)^package ");
        none("2 a lambda", bare, "->");
        none("2 a method reference", bare, "::");
        none("6 a catch, a finally or a try", bare, "\\b(catch|finally|try)\\b");
        none("6 another word", bare, "\\b(synchronized|assert)\\b");
        none("6 another exception", bare, "throw new (?!(IllegalState|IllegalArgument|IndexOutOfBounds"
                + "|Arithmetic|UnsupportedOperation|NoSuchElement|Runtime)Exception\\((\"\")?\\);)");
        none("6 a throw of a kept exception", bare, "throw (?!new )");
        none("10 texts joined by +", bare, "\"\" *\\+|\\+ *\"\"");
        none("4 a library call", bare, "Exact\\(|\\bSystem\\.(?!arraycopy)|\\bObject\\b|\\bMath\\.(?!max|min|abs)");
        none("7 a loop without a bound", bare, "while \\(true\\)|for \\(;;\\)");
        none("signs beyond 127", text, "[^\\x00-\\x7f]");
        Checks.due("11 classes", many(bare, "\\b(class|interface|enum|record) \\w+") <= MOST_CLASSES, true);
        methods(code);
        Checks.end();
    }

    private static String withoutComments(String text) {
        return text.replaceAll("(?s)/\\*.*?\\*/", "").replaceAll("(?m)//.*$", "");
    }

    private static void none(String rule, String code, String pattern) {
        Matcher matcher = Pattern.compile(pattern).matcher(code);
        if (matcher.find()) {
            int end = Math.min(code.length(), matcher.end() + 40);
            Checks.due("rule " + rule + " at: " + code.substring(matcher.start(), end), 1, 0);
        }
    }

    private static int many(String code, String pattern) {
        return (int) Pattern.compile(pattern).matcher(code).results().count();
    }

    /** The length of each method, and its parameters, but for send, whose face has ten. */
    private static void methods(String code) {
        List<String> lines = new ArrayList<>(List.of(code.split("\n")));
        Pattern head = Pattern.compile("^( {8}| {4}(?! ))(?!return|throw|new|else|if|for)[\\w\\[\\]<> ]*?(\\w+)\\(.*");
        for (int i = 0; i < lines.size(); i++) {
            Matcher matcher = head.matcher(lines.get(i));
            if (matcher.matches() && !lines.get(i).endsWith(";")) {
                String end = matcher.group(1) + "}";
                int last = i;
                while (last < lines.size() && !lines.get(last).equals(end)) {
                    last++;
                }
                String name = matcher.group(2);
                Checks.due("rule 11 lines of " + name, last - i <= MOST_LINES, true);
                int parameters = lines.get(i).split(",").length;
                Checks.due("rule 11 parameters of " + name,
                        parameters <= MOST_PARAMETERS || name.equals("send"), true);
            }
        }
    }
}
