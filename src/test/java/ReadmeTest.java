import java.io.IOException;
import java.lang.reflect.Method;
import java.nio.file.Files;
import java.nio.file.Path;
import java.util.ArrayList;
import java.util.List;
import java.util.Set;
import java.util.TreeSet;
import java.util.regex.Matcher;
import java.util.regex.Pattern;
import java.util.stream.Stream;

/** What README.md says of the class and of its tests is so. Begun in the project's directory, as all tests. */
public final class ReadmeTest {
    private static final Checks CHECKS = new Checks("ReadmeTest");
    private static final Pattern CALL = Pattern.compile("x\\.(\\w+)\\(([-0-9, ]*)\\); +// (.*)");
    private static final Pattern FEED = Pattern.compile("for \\(char c : \"(.*)\"\\.toCharArray\\(\\)\\) x\\.feed\\(c\\);");
    private static final Pattern NUMBER = Pattern.compile("(-?[0-9]+)(?::.*)?");
    private static final Pattern PAPER = Pattern.compile(".*THE PAPER holds \"(.*)\"");

    public static void main(String[] args) throws Exception {
        String text = Files.readString(Path.of("README.md"));
        int begin = text.indexOf("```java") + "```java".length();
        checkCalls(text.substring(begin, text.indexOf("```", begin)));
        checkTests(text.substring(text.indexOf("## Tests")));
        CHECKS.end();
    }

    private static void checkCalls(String code) throws Exception {
        DartMind x = new DartMind();
        for (String line : code.split("\n")) {
            Matcher feed = FEED.matcher(line);
            if (feed.matches()) {
                Scene.feed(x, feed.group(1));
            } else if (!line.isBlank() && !line.startsWith("//") && !line.equals("DartMind x = new DartMind();")) {
                checkCall(x, line);
            }
        }
    }

    private static void checkCall(DartMind x, String line) throws Exception {
        Matcher call = CALL.matcher(line);
        CHECKS.holds("README: a call and its answer: " + line, call.matches());
        if (!call.matches()) {
            return;
        }
        long got = answer(x, call.group(1), numbers(call.group(2)));
        Matcher number = NUMBER.matcher(call.group(3));
        if (number.matches()) {
            CHECKS.due("README: " + line, got, Long.parseLong(number.group(1)));
        }
        Matcher paper = PAPER.matcher(call.group(3));
        if (paper.matches()) {
            CHECKS.holds("README: " + line, Scene.paper(x).equals(paper.group(1)));
        }
    }

    private static long answer(DartMind x, String name, List<Integer> numbers) throws Exception {
        for (Method method : DartMind.class.getMethods()) {
            if (method.getName().equals(name) && method.getParameterCount() == numbers.size()) {
                return ((Number) method.invoke(x, numbers.toArray())).longValue();
            }
        }
        CHECKS.holds("README: there is a " + name + " of " + numbers.size(), false);
        return 0;
    }

    private static List<Integer> numbers(String text) {
        List<Integer> numbers = new ArrayList<>();
        for (String word : text.isBlank() ? new String[0] : text.split(", *")) {
            numbers.add(Integer.parseInt(word));
        }
        return numbers;
    }

    private static void checkTests(String text) throws IOException {
        Set<String> told = new TreeSet<>();
        Matcher each = Pattern.compile("`(\\w+Test)`").matcher(text);
        while (each.find()) {
            told.add(each.group(1));
        }
        Set<String> there = new TreeSet<>();
        try (Stream<Path> files = Files.list(Path.of("src/test/java"))) {
            files.map(file -> file.getFileName().toString()).filter(name -> name.endsWith("Test.java"))
                    .forEach(name -> there.add(name.replace(".java", "")));
        }
        CHECKS.holds("README names the tests " + there + ": " + told, told.equals(there));
        String run = Files.readString(Path.of(".ci/run"));
        CHECKS.holds(".ci/run runs src/test/java/*Test.java", run.contains("for file in src/test/java/*Test.java"));
        CHECKS.holds(".ci/run runs what is under ../shared/tests",
                run.contains("shared=../shared/tests") && run.contains("for file in \"$shared\"/*.java"));
        CHECKS.holds(".ci/run can be run", Files.isExecutable(Path.of(".ci/run")));
    }
}
