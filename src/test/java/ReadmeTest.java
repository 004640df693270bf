import java.io.IOException;
import java.lang.reflect.Method;
import java.lang.reflect.Modifier;
import java.nio.file.Files;
import java.nio.file.Path;
import java.util.regex.Matcher;
import java.util.regex.Pattern;
import javax.tools.ToolProvider;

/** README.md: its example compiles, each row of it answers what stands behind it, and each call is named. */
public final class ReadmeTest {
    private static final Check CHECK = new Check();
    private static final Pattern FED = Pattern.compile("feed\\(round, \"(.*)\"\\);");
    private static final Pattern ROW = Pattern.compile("round\\.(\\w+)\\((.*)\\); +// (-?\\d+|true|false):.*");

    public static void main(String[] args) throws IOException {
        String readme = Files.readString(Path.of("README.md"));
        Matcher block = Pattern.compile("(?s)```java\n(.*?)```").matcher(readme);
        boolean found = block.find();
        CHECK.same("README.md has an example", found, true);
        if (found) {
            compiled(block.group(1));
            rows(block.group(1).split("void main")[1]);
            named(readme.substring(block.end()));
        }
        CHECK.end();
    }

    private static void compiled(String example) throws IOException {
        Path folder = Files.createTempDirectory("readme");
        Path source = Files.writeString(folder.resolve("Example.java"), example);
        int errors = ToolProvider.getSystemJavaCompiler().run(null, null, null, "-d", folder.toString(),
                "src/main/java/ConfettiRound.java", source.toString());
        CHECK.same("what javac says of the example", errors, 0);
        try (var files = Files.list(folder)) {
            for (Path file : files.toList()) {
                Files.delete(file);
            }
        }
        Files.delete(folder);
    }

    private static void rows(String example) {
        ConfettiRound round = new ConfettiRound();
        int answered = 0;
        for (String line : example.split("\n")) {
            Matcher fed = FED.matcher(line.strip());
            Matcher row = ROW.matcher(line.strip());
            if (fed.matches()) {
                Check.feed(round, fed.group(1));
            } else if (row.matches()) {
                String call = (row.group(1) + " " + row.group(2).replace(",", "")).strip();
                CHECK.same("README.md: " + line.strip(), Calls.answer(round, call), Calls.number(row.group(3)));
                answered++;
            }
        }
        int calls = example.split("round\\.\\w+\\(").length - 1;
        CHECK.same("rows of the example that have an answer", answered, calls);
    }

    private static void named(String uses) {
        for (Method method : ConfettiRound.class.getDeclaredMethods()) {
            if (Modifier.isPublic(method.getModifiers())) {
                CHECK.same("README.md names " + method.getName(), uses.contains("`" + method.getName() + "`"), true);
            }
        }
    }
}
