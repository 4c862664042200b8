import java.io.IOException;
import java.nio.file.Files;
import java.nio.file.Path;
import java.util.regex.Matcher;
import java.util.regex.Pattern;

/** The calls that README.md shows answer what it says behind them. */
public final class ReadmeTest {
    private static final Pattern CALL = Pattern.compile("^ {4}office\\.(\\w+\\(.*\\)); +// (throws\\.\\w+|-?\\d+)(:.*)?$");
    private static final Pattern TEXT = Pattern.compile("^ {4}for \\(char sign : \"(.*)\"\\.toCharArray\\(\\)\\).*$");

    public static void main(String[] args) throws IOException {
        Run run = new Run("README.md");
        int found = 0;
        for (String line : Files.readString(Path.of("README.md")).split("\n")) {
            Matcher call = CALL.matcher(line);
            Matcher text = TEXT.matcher(line);
            if (call.matches()) {
                found++;
                String written = call.group(1).replace("TrueSheets.NONE", "-1").replaceAll("(\\d)L\\b", "$1");
                Run.check(line.trim(), run.answer(written), call.group(2));
            } else if (text.matches()) {
                run.text(text.group(1));
            } else {
                Run.check("a call that is not understood: " + line, line.startsWith("    office."), false);
            }
        }
        Run.check("there are calls in README.md", found > 10, true);
        Run.end("ReadmeTest");
    }
}
