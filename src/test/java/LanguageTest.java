import java.io.IOException;
import java.nio.charset.StandardCharsets;
import java.nio.file.Files;
import java.nio.file.Path;
import java.util.List;
import java.util.regex.Pattern;

/** The source keeps to those rules of the language document that single lines can break. */
final class LanguageTest {
    private static final Path SOURCE = Path.of("src/main/java/CreditBeams.java");
    private static final int LONGEST_METHOD = 60;
    private static final Pattern STRANGE = Pattern.compile("->|::|Exact\\(|static \\{|\\b(package|synchronized|assert"
            + "|finally|catch|instanceof|Object|Float|Double|Exception e|equals|hashCode|toString)\\b");
    private static final Pattern CALL = Pattern.compile("\\b(System|Arrays|Math|Integer|Long)\\.");
    private static final Pattern GOOD_CALL = Pattern.compile(
            "System\\.arraycopy|Arrays\\.(copyOf|copyOfRange|fill)\\(|Math\\.(max|min)\\(");

    private LanguageTest() {
    }

    static void run(Checks check) {
        check.topic("language");
        List<String> lines = List.of();
        try {
            lines = Files.readAllLines(SOURCE, StandardCharsets.US_ASCII);
        } catch (IOException e) {
            System.out.println("language: " + SOURCE + " can't be read as ASCII");
        }
        check.isTrue("a source", lines.size() > 100);
        int start = 0;
        for (int i = 0; i < lines.size(); i++) {
            String line = lines.get(i);
            String at = "line " + (i + 1);
            if (line.startsWith("import")) {
                check.isTrue(at + " importing Arrays alone", line.equals("import java.util.Arrays;"));
            }
            String code = line.replaceAll("\".*?\"", "\"\"").replaceAll("//.*|^ */?\\*.*", "");
            check.isTrue(at + " saying nothing strange", !STRANGE.matcher(code).find());
            boolean library = !CALL.matcher(code.replaceAll(GOOD_CALL.pattern(), "")).find();
            check.isTrue(at + " calling the library that is allowed", library || line.startsWith("import"));
            boolean made = code.matches(".*\\bnew\\b.*") && !code.contains("throw new ");
            check.isTrue(at + " making objects with their owner alone", !made || code.matches(" +private final .*"));
            if (line.isEmpty()) {
                check.isTrue(at + " ending a part that is short", i - start <= LONGEST_METHOD);
                start = i;
            }
        }
    }
}
