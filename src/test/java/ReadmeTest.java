import java.io.IOException;
import java.nio.file.Files;
import java.nio.file.Path;
import java.util.Arrays;
import java.util.Set;
import java.util.TreeSet;
import java.util.regex.Matcher;
import java.util.regex.Pattern;

/** What README.md shows of calls and answers is what the class answers; no call is left out. */
public final class ReadmeTest {
    private static final Check CHECK = new Check();
    private static final Pattern MADE = Pattern.compile("DoorKeepsQuarrel x = new DoorKeepsQuarrel\\(\\);");
    private static final Pattern TOLD = Pattern.compile("tell\\(x, \"(.*)\"\\); +// (-?\\d+)\\b.*");
    private static final Pattern CALL = Pattern.compile("x\\.(\\w+)\\((.*)\\); +// (-?\\d+)\\b.*");
    private static final String TELL = String.join("\n",
        "static int tell(DoorKeepsQuarrel x, String told) {",
        "    for (int i = 0; i < told.length(); i++) {",
        "        x.letter(told.charAt(i));",
        "    }",
        "    return x.house();",
        "}",
        "");

    private static DoorKeepsQuarrel x = null;

    public static void main(String[] args) throws IOException {
        String page = Files.readString(Path.of("README.md"));
        Set<String> shown = new TreeSet<>();
        Matcher block = Pattern.compile("(?s)```java\n(.*?)```").matcher(page);
        while (block.find()) {
            if (!block.group(1).equals(TELL)) {
                for (String line : block.group(1).split("\n")) {
                    run(line, shown);
                }
            }
        }
        CHECK.so("README.md shows how to tell a house", page.contains(TELL));
        CHECK.due("calls that README.md shows", shown.size(), Calls.many());
        CHECK.so("README.md says how to run the tests", page.contains(".ci/run"));
        everyTestIsNamed(page);
        CHECK.end();
    }

    private static void run(String line, Set<String> shown) {
        Matcher told = TOLD.matcher(line);
        Matcher call = CALL.matcher(line);
        if (MADE.matcher(line).matches()) {
            x = new DoorKeepsQuarrel();
        } else if (x != null && told.matches()) {
            CHECK.due("README.md: " + line, Check.tell(x, told.group(1)), Long.parseLong(told.group(2)));
        } else if (x != null && call.matches()) {
            shown.add(call.group(1));
            long got = Calls.ask(x, call.group(1), numbers(call.group(2)));
            CHECK.due("README.md: " + line, got, Long.parseLong(call.group(3)));
        } else {
            CHECK.so("README.md shows an answer: " + line, false);
        }
    }

    private static int[] numbers(String args) {
        if (args.isEmpty()) {
            return new int[0];
        }
        return Arrays.stream(args.split(", ")).mapToInt(ReadmeTest::number).toArray();
    }

    private static int number(String arg) {
        return arg.startsWith("'") ? arg.charAt(1) : Integer.parseInt(arg);
    }

    private static void everyTestIsNamed(String page) throws IOException {
        try (var files = Files.list(Path.of("src/test/java"))) {
            files.map(file -> file.getFileName().toString().replace(".java", ""))
                .forEach(name -> CHECK.so("README.md names " + name, page.contains("`" + name + "`")));
        }
    }
}
