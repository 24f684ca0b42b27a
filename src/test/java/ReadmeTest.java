import java.io.IOException;
import java.nio.file.Files;
import java.nio.file.Path;
import java.util.ArrayList;
import java.util.List;
import java.util.regex.Matcher;
import java.util.regex.Pattern;

/** The examples of README.md are what the class answers. It is run from the project's own folder, as .ci/run does. */
public final class ReadmeTest {
    private static final Due DUE = new Due();
    private static final Pattern EXAMPLE = Pattern.compile("\"(.*)\" with (.*) -> (?:\"(.*)\"|fault (\\d) at (\\d+))");
    private static final Pattern VALUE = Pattern.compile("'([^']*)'|([-.0-9]+)");

    /** As Clerk.with takes them: a text behind a '. */
    private static String[] values(String listed) {
        List<String> values = new ArrayList<>();
        Matcher value = VALUE.matcher(listed);
        while (value.find()) {
            values.add(value.group(1) == null ? value.group(2) : "'" + value.group(1));
        }
        return values.toArray(new String[0]);
    }

    private static void patterns() throws IOException {
        int examples = 0;
        for (String line : Files.readAllLines(Path.of("README.md"))) {
            Matcher example = EXAMPLE.matcher(line);
            if (example.matches()) {
                String fault = example.group(4) + "@" + example.group(5);
                String want = example.group(3) == null ? fault : example.group(3);
                DUE.fills(want, example.group(1), values(example.group(2)));
                examples++;
            }
        }
        DUE.same("how many lines with -> are examples", examples, linesWithArrow());
    }

    private static int linesWithArrow() throws IOException {
        return (int) Files.readAllLines(Path.of("README.md")).stream().filter(line -> line.contains(" -> ")).count();
    }

    private static void firstUse() {
        FormatDesk desk = new FormatDesk();
        DUE.same("type", desk.type(0x392E393935L, 5), true);
        DUE.same("decimal", desk.decimal(), 1);
        DUE.same("type", desk.type(0x253037_2E3266L, 6), true);
        DUE.same("fill", desk.fill(), 7);
        DUE.same("letter", desk.letter(2), 49);
    }

    public static void main(String[] args) throws IOException {
        patterns();
        firstUse();
        DUE.end();
    }
}
