import java.io.IOException;
import java.lang.invoke.MethodHandles;
import java.nio.charset.StandardCharsets;
import java.nio.file.Files;
import java.nio.file.Path;
import java.util.ArrayList;
import java.util.LinkedHashMap;
import java.util.List;
import java.util.Map;
import java.util.regex.Matcher;
import java.util.regex.Pattern;
import javax.tools.ToolProvider;

/**
 * README.md tells of each call what the document tells, in its words and its order, and nothing else; its
 * examples answer what stands behind their calls. Run it from the project's folder.
 */
public final class ReadmeTest {
    private static final int PROMISES = 28;
    private static final Pattern HEAD = Pattern.compile("`(.*?)(?: throws .*)?`: (.*)");
    private static final Pattern CONSTANT = Pattern.compile("\\b(NONE|WAITING|HELD|QUEUED|NETTED|FINAL|RETURNED)\\b");
    /** A call of an example, and what it answers or throws. */
    private static final Pattern LINE = Pattern.compile("(x\\.\\w+\\(.*\\));\\s*// (.+)");

    public static void main(String[] args) throws IOException, ReflectiveOperationException {
        String document = read("../shared/DOC.md");
        String readme = read("README.md");
        Map<String, List<String>> wanted = callsOf(document);
        Map<String, List<String>> told = toldOf(readme);
        Checks.due("promises of the document", wanted.size(), PROMISES);
        Checks.due("the calls in their order: " + told.keySet(),
                new ArrayList<>(told.keySet()).equals(new ArrayList<>(wanted.keySet())), true);
        for (String call : wanted.keySet()) {
            List<String> got = told.getOrDefault(call, List.of());
            Checks.due(call + " is told by " + got + ", due is " + wanted.get(call), got.equals(wanted.get(call)), true);
        }
        examples(readme);
        Checks.end();
    }

    private static String read(String path) throws IOException {
        return Files.readString(Path.of(path), StandardCharsets.UTF_8);
    }

    /** By the face of each call: its promise, its arguments, answers and exceptions. */
    private static Map<String, List<String>> callsOf(String document) {
        Map<String, List<String>> all = new LinkedHashMap<>();
        Matcher section = Pattern.compile("(?s)\\n## Promise (\\d+):[^\\n]*\\n(.*?)(?=\\n## )").matcher(document);
        while (section.find()) {
            List<String> lines = new ArrayList<>(List.of(section.group(2).split("\n")));
            lines.removeIf(String::isEmpty);
            Matcher head = HEAD.matcher(lines.get(0));
            Checks.due("the head of promise " + section.group(1), head.matches(), true);
            List<String> told = new ArrayList<>();
            told.add("Promise " + section.group(1) + ". " + head.group(2));
            for (String line : lines.subList(1, lines.size())) {
                told.add(line.startsWith("- ") ? line : "- " + line);
            }
            all.put(head.group(1), told);
        }
        return all;
    }

    /** The same from README.md: what stands below the name of a call, up to what is no line of it. */
    private static Map<String, List<String>> toldOf(String readme) {
        Map<String, List<String>> all = new LinkedHashMap<>();
        List<String> told = null;
        for (String line : readme.split("\n")) {
            if (line.startsWith("#### `")) {
                told = new ArrayList<>();
                all.put(line.substring(6, line.length() - 1), told);
            } else if (line.startsWith("#")) {
                told = null;
            } else if (told != null && line.matches("(Promise \\d+\\.|- ).*")) {
                told.add(line);
            }
        }
        return all;
    }

    /** Each example becomes a class of its own, whose calls are held against what stands behind them. */
    private static void examples(String readme) throws IOException, ReflectiveOperationException {
        Matcher block = Pattern.compile("(?s)```java\\n(.*?)```").matcher(readme);
        StringBuilder all = new StringBuilder();
        int many = 0;
        while (block.find()) {
            String name = "Example" + many++;
            String code = codeOf(name, block.group(1));
            all.append(block.group(1));
            Path folder = Files.createTempDirectory("examples");
            Path source = folder.resolve(name + ".java");
            Files.writeString(source, code);
            int failed = ToolProvider.getSystemJavaCompiler().run(null, null, null, "-proc:none",
                    "-cp", System.getProperty("java.class.path"), "-d", folder.toString(), source.toString());
            Checks.due(name + " compiles", failed, 0);
            if (failed == 0) {
                byte[] made = Files.readAllBytes(folder.resolve(name + ".class"));
                MethodHandles.lookup().defineClass(made).getDeclaredMethod("run").invoke(null);
            }
        }
        for (String call : callsOf(read("../shared/DOC.md")).keySet()) {
            String name = call.replaceFirst("\\(.*", "").replaceFirst(".* ", "");
            Checks.due("an example of " + name, Pattern.compile("\\b" + name + "\\(").matcher(all).find(), true);
        }
        Checks.due("examples", many, 4);
    }

    private static String codeOf(String name, String block) {
        StringBuilder code = new StringBuilder("final class " + name + " {\n    static void run() {\n");
        for (String line : block.split("\n")) {
            Matcher call = LINE.matcher(line);
            code.append(call.matches() ? checked(name, call.group(1), call.group(2)) : line).append('\n');
        }
        return code.append("    }\n}\n").toString();
    }

    private static String checked(String name, String call, String answer) {
        String told = "\"" + name + ": " + call + "\", ";
        String made = CONSTANT.matcher(call).replaceAll("MillstreamPayments.$1");
        switch (answer) {
            case "throws IndexOutOfBoundsException":
                return "Checks.index(" + told + "x, () -> " + made + ");";
            case "throws IllegalArgumentException":
                return "Checks.argument(" + told + "x, () -> " + made + ");";
            case "throws IllegalStateException":
                return "Checks.state(" + told + "x, () -> " + made + ");";
            default:
                return "Checks.due(" + told + made + ", " + CONSTANT.matcher(answer).replaceAll("MillstreamPayments.$1") + ");";
        }
    }
}
