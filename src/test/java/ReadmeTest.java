import java.io.IOException;
import java.nio.charset.StandardCharsets;
import java.nio.file.Files;
import java.nio.file.Path;
import java.util.regex.Matcher;
import java.util.regex.Pattern;

/** The examples of README.md: each call answers what is told behind it. */
public final class ReadmeTest {
    private static final Check CHECK = new Check();
    private static final Pattern CALL = Pattern.compile("pictures\\.(\\w+\\(.*\\)); *// ([A-Z_]*-?\\d*)(:.*)?");
    private static final Pattern TEXT = Pattern.compile("for \\(char sign : \"(.*)\"\\.toCharArray\\(\\)\\) \\{");
    /** So that an example that cannot be read is not left out unseen. */
    private static final int CALLS = 14;

    public static void main(String[] args) throws IOException {
        StringBuilder run = new StringBuilder();
        int calls = 0;
        for (String line : Files.readAllLines(Path.of("README.md"), StandardCharsets.UTF_8)) {
            Matcher call = CALL.matcher(line);
            Matcher text = TEXT.matcher(line);
            if (call.matches()) {
                run.append(call.group(1)).append(" = ").append(call.group(2)).append("; ");
                calls++;
            } else if (text.matches()) {
                run.append("more(").append(text.group(1)).append("); ");
            }
        }
        CHECK.sentence("README.md", run.toString());
        CHECK.due("calls with an answer in README.md", calls, CALLS);
        CHECK.end();
    }
}
