import java.nio.file.Files;
import java.nio.file.Path;
import java.util.regex.Matcher;
import java.util.regex.Pattern;

/** Each call of the example in README.md answers what stands behind it, and README.md names every test. */
public final class ReadmeTest {
    private static final Check check = new Check();
    private static final Pattern LINE = Pattern.compile("house\\.(\\w+\\(.*?\\)); *// ('.'|throws \\w+|[^,]+)(, .*)?");

    public static void main(String[] args) throws Exception {
        String text = Files.readString(Path.of("README.md"));
        example(text);
        tests(text);
        check.finish();
    }

    private static void example(String text) {
        Barrehouse house = new Barrehouse();
        for (String line : text.lines().toList()) {
            if (!line.startsWith("house.")) {
                continue;
            }
            Matcher parts = LINE.matcher(line);
            check.same(line, parts.matches() ? line : "not a call with its answer");
            if (parts.matches()) {
                String due = parts.group(2).strip().replace("'", "");
                Call call = Call.all(parts.group(1) + " = " + due).get(0);
                Object got = call.on(house);
                check.same(line, call.isDue(got) ? line : got);
            }
        }
    }

    private static void tests(String text) throws Exception {
        try (var files = Files.list(Path.of("src/test/java"))) {
            for (Path file : files.sorted().toList()) {
                String name = file.getFileName().toString().replace(".java", "");
                check.same(name, text.contains("`" + name + "`") ? name : "named in README.md");
            }
        }
    }
}
