import java.io.IOException;
import java.nio.charset.StandardCharsets;
import java.nio.file.Files;
import java.nio.file.Path;
import java.util.Arrays;
import java.util.regex.Matcher;
import java.util.regex.Pattern;

/** The calls that README.md shows, one behind another on one object, answer what is said behind them. */
public final class ReadmeTest {
    private static final Pattern TEXT = Pattern.compile("String text = \"([^\"]*)\";");
    private static final Pattern CALL = Pattern.compile("(?m)^lamps\\.(\\w+)\\(([-0-9, ]*)\\); +// (-?\\d+)\\b");
    private static final int LEAST_CALLS = 10;

    private static int[] numbers(String list) {
        if (list.isBlank()) return new int[0];
        return Arrays.stream(list.split(",")).mapToInt(s -> Integer.parseInt(s.trim())).toArray();
    }

    private static void callsAnswer(String readme) {
        Matcher text = TEXT.matcher(readme);
        if (!text.find()) {
            Check.wrong("there is no text");
            return;
        }
        Run x = new Run();
        x.writeText(0, 0, text.group(1));
        Matcher call = CALL.matcher(readme);
        int calls = 0;
        for (; call.find(); calls++) x.due(Long.parseLong(call.group(3)), call.group(1), numbers(call.group(2)));
        // A call in another form would be passed over unseen.
        long shown = readme.lines().filter(line -> line.matches("lamps\\..*")).count() - 1;
        if (calls < LEAST_CALLS || calls != shown) Check.wrong(calls + " of " + shown + " calls are looked at");
    }

    public static void main(String[] args) throws IOException {
        String readme = Files.readString(Path.of("README.md"), StandardCharsets.UTF_8);
        Check.that("README.md", "behind each call stands its answer", () -> callsAnswer(readme));
        Check.end();
    }
}
