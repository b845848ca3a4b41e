import java.io.IOException;
import java.lang.reflect.Method;
import java.nio.charset.StandardCharsets;
import java.nio.file.Files;
import java.nio.file.Path;
import java.util.List;
import java.util.TreeSet;
import java.util.regex.Matcher;
import java.util.regex.Pattern;

/** The calls that README.md shows answer what it says, and it tells of each method. */
final class ReadmeTest {
    private static final Path README = Path.of("README.md");
    private static final Pattern CALL = Pattern.compile("credits\\.(\\w+)\\(([-0-9, ]*)\\); +// (-?[0-9]+)\\b.*");
    private static final Pattern TEXT = Pattern.compile("for \\(char code : \"([^\"]*)\".toCharArray\\(\\)\\) \\{");

    private ReadmeTest() {
    }

    static void run(Checks check) {
        check.topic("README.md");
        List<String> lines = List.of();
        try {
            lines = Files.readAllLines(README, StandardCharsets.UTF_8);
        } catch (IOException e) {
            System.out.println(README + " can't be read");
        }
        CreditBeams credits = new CreditBeams();
        TreeSet<String> told = new TreeSet<>();
        int calls = 0;
        for (String line : lines) {
            Matcher text = TEXT.matcher(line);
            Matcher call = CALL.matcher(line);
            if (text.matches()) {
                Looks.type(credits, text.group(1));
            } else if (call.matches()) {
                calls++;
                check.same(line, Long.parseLong(call.group(3)), answer(credits, call.group(1), call.group(2)));
            } else if (line.startsWith("| `")) {
                told.addAll(List.of(line.split("\\|")[1].trim().replace("`", "").split(" ")));
            }
        }
        check.isTrue("calls that are shown", calls > 10);
        for (Method method : CreditBeams.class.getDeclaredMethods()) {
            check.isTrue("telling of " + method.getName(),
                    method.toString().startsWith("public ") == told.contains(method.getName()));
        }
    }

    private static long answer(CreditBeams credits, String name, String numbers) {
        String[] parts = numbers.isEmpty() ? new String[0] : numbers.split(", ");
        Object[] arguments = new Object[parts.length];
        Class<?>[] types = new Class<?>[parts.length];
        for (int i = 0; i < parts.length; i++) {
            arguments[i] = Integer.valueOf(parts[i]);
            types[i] = int.class;
        }
        try {
            return ((Number) CreditBeams.class.getMethod(name, types).invoke(credits, arguments)).longValue();
        } catch (ReflectiveOperationException e) {
            throw new IllegalStateException(name + " can't be called", e);
        }
    }
}
