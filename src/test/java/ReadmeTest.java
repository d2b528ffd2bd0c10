import java.io.IOException;
import java.nio.file.Files;
import java.nio.file.Path;
import java.util.ArrayList;
import java.util.LinkedHashMap;
import java.util.List;
import java.util.Map;
import java.util.TreeMap;
import java.util.regex.Matcher;
import java.util.regex.Pattern;
import java.util.stream.Stream;

/**
 * What README.md tells of the class is so: the runs in it answer as it says, and each call of ../shared/DOC.md stands in
 * it once, with the exceptions that it may throw. Run it from the project's folder.
 */
public final class ReadmeTest {
    private static final Check check = new Check("ReadmeTest");
    private static final Path README = Path.of("README.md");
    private static final Path DOCUMENT = Path.of("..", "shared", "DOC.md");
    private static final Pattern EXCEPTION = Pattern.compile("\\w+Exception");

    public static void main(String[] args) throws IOException {
        String readme = Files.readString(README);
        check.is("runs in README.md", 2, runs(readme));
        calls(readme, Files.readString(DOCUMENT));
        classes(readme);
        check.is("README.md tells the command for all tests", true, readme.contains("```sh\n.ci/run\n```"));
        check.is("the command is there", true, Files.isRegularFile(Path.of(".ci", "run")));
        check.end();
    }

    /** Calls each line of each run on a new object, and tells how many runs there are. */
    private static int runs(String readme) {
        Matcher block = Pattern.compile("```java\n(.*?)```", Pattern.DOTALL).matcher(readme);
        int count = 0;
        while (block.find()) {
            count++;
            ThirteenthDay war = new ThirteenthDay();
            for (String line : block.group(1).split("\n")) {
                if (!line.equals("ThirteenthDay war = new ThirteenthDay();")) {
                    answer(war, line);
                }
            }
        }
        return count;
    }

    private static void answer(ThirteenthDay war, String line) {
        Matcher call = Pattern.compile("war\\.(\\w+)\\((.*?)\\); +// (.+)").matcher(line);
        boolean isCall = call.matches();
        check.is("a call with its answer: " + line, true, isCall);
        if (!isCall) {
            return;
        }
        String told = call.group(3).split(": ")[0];
        String due = told.startsWith("throws ") ? "throws.java.lang." + told.substring(7) : told;
        check.is(line, due, Calls.answer(war, call.group(1), arguments(call.group(2))));
    }

    private static int[] arguments(String text) {
        if (text.isEmpty()) {
            return new int[0];
        }
        String[] words = text.split(", ");
        int[] arguments = new int[words.length];
        for (int k = 0; k < words.length; k++) {
            boolean isTruth = words[k].equals("true") || words[k].equals("false");
            arguments[k] = isTruth ? (words[k].equals("true") ? 1 : 0) : Integer.parseInt(words[k]);
        }
        return arguments;
    }

    /** Each call with its exceptions, as the document and as README.md tell it. */
    private static void calls(String readme, String document) {
        Map<String, List<String>> due = new TreeMap<>();
        Matcher face = Pattern.compile("^    public (.*\\))(.*);$", Pattern.MULTILINE).matcher(document);
        while (face.find()) {
            due.put(face.group(1), exceptionsIn(face.group(2)));
        }
        check.is("calls of the document", 39, due.size());
        Map<String, List<String>> got = new LinkedHashMap<>();
        Matcher item = Pattern.compile("^- `(.*?\\))`(.*?)(?=\n- |\n\n|\n#)", Pattern.MULTILINE | Pattern.DOTALL)
                .matcher(readme);
        while (item.find()) {
            check.is("told before: " + item.group(1), false, got.containsKey(item.group(1)));
            got.put(item.group(1), exceptionsIn(item.group(2)));
        }
        check.is("calls of README.md", due.toString(), new TreeMap<>(got).toString());
    }

    private static List<String> exceptionsIn(String text) {
        List<String> names = new ArrayList<>();
        Matcher name = EXCEPTION.matcher(text);
        while (name.find()) {
            names.add(name.group());
        }
        return names;
    }

    /** Each test class stands in the table of README.md. */
    private static void classes(String readme) throws IOException {
        List<Path> sources = new ArrayList<>();
        try (Stream<Path> all = Files.list(Path.of("src", "test", "java"))) {
            all.filter(one -> one.toString().endsWith("Test.java")).forEach(sources::add);
        }
        check.is("there are tests", true, !sources.isEmpty());
        for (Path source : sources) {
            String name = source.getFileName().toString().replace(".java", "");
            check.is("README.md names " + name, true, readme.contains("`" + name + "`"));
        }
    }
}
