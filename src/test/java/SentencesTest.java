import java.io.IOException;
import java.nio.charset.StandardCharsets;
import java.nio.file.DirectoryStream;
import java.nio.file.Files;
import java.nio.file.Path;
import java.util.ArrayList;
import java.util.LinkedHashMap;
import java.util.List;
import java.util.Map;
import java.util.Set;
import java.util.TreeSet;
import java.util.regex.Matcher;
import java.util.regex.Pattern;

/**
 * Each test of a boundary case names a sentence that stands in the document, in the section that it tells;
 * each promise's lines of arguments, answers and exceptions have one; README.md lists all of them.
 * Run it from the project's folder.
 */
public final class SentencesTest {
    private static final Pattern TEST =
            Pattern.compile("(?s)(/\\*\\*((?:(?!\\*/).)*)\\*/\\s*)?\\n    static void (\\w+)\\(\\)");
    private static final Pattern NAMED = Pattern.compile("([\\w ]+): \"(.*)\"");

    public static void main(String[] args) throws IOException {
        Map<String, String> sections = sections(plain(read("../shared/DOC.md")));
        String readme = read("README.md");
        Set<String> named = new TreeSet<>();
        List<Path> files = new ArrayList<>();
        try (DirectoryStream<Path> found = Files.newDirectoryStream(Path.of("src/test/java"), "Bounds?*Test.java")) {
            found.forEach(files::add);
        }
        files.sort(null);
        for (Path file : files) {
            String name = file.getFileName().toString().replace(".java", "");
            look(name, read(file.toString()), sections, readme, named);
        }
        linesOfPromises(sections, named);
        Checks.due("rows of README.md, one for each test", readme.split("\\| Bounds\\w+Test\\.\\w+ \\|\n", -1).length - 1,
                named.size());
        Checks.end();
    }

    private static void look(String file, String code, Map<String, String> sections, String readme, Set<String> named) {
        Matcher test = TEST.matcher(code);
        while (test.find()) {
            String told = file + "." + test.group(3);
            Matcher remark = NAMED.matcher(test.group(2) == null ? "" : test.group(2).trim());
            Checks.due(told + " names its sentence", remark.matches(), true);
            if (remark.matches()) {
                String section = remark.group(1);
                String sentence = remark.group(2);
                Checks.due(told + ": stands in the document's section: " + sentence,
                        sections.getOrDefault(section, "").contains(sentence), true);
                String row = "| " + section + " | " + sentence + " | " + told + " |";
                Checks.due("README.md has the row " + row, readme.contains(row), true);
                named.add(section + ": " + sentence);
            }
        }
    }

    /** Each line of a promise on an argument, an answer or an exception is named by a test. */
    private static void linesOfPromises(Map<String, String> sections, Set<String> named) {
        for (Map.Entry<String, String> section : sections.entrySet()) {
            if (section.getKey().startsWith("Promise")) {
                for (String line : section.getValue().split("\n")) {
                    if (line.matches("(- |Throws |Returns ).*")) {
                        String due = section.getKey() + ": " + line.replaceFirst("^- ", "");
                        Checks.due("a test for " + due, named.contains(due), true);
                    }
                }
            }
        }
    }

    /** The text of each section by its title; of a promise by its number. */
    private static Map<String, String> sections(String document) {
        Map<String, String> all = new LinkedHashMap<>();
        String title = "";
        for (String line : document.split("\n")) {
            if (line.startsWith("#")) {
                title = line.replaceFirst("^#+ ", "").replaceFirst("^(Promise \\d+):.*", "$1");
            }
            all.merge(title, line, (before, next) -> before + "\n" + next);
        }
        return all;
    }

    private static String plain(String text) {
        return text.replace("`", "");
    }

    private static String read(String path) throws IOException {
        return Files.readString(Path.of(path), StandardCharsets.UTF_8);
    }
}
