import java.io.IOException;
import java.nio.file.Files;
import java.nio.file.Path;
import java.util.Arrays;
import java.util.Set;
import java.util.TreeSet;
import java.util.regex.Matcher;
import java.util.regex.Pattern;

/** The calls that README.md shows, from its first line to its last, answer what stands behind them there. */
public final class ReadmeTest {
    private static final String FENCE = "```";
    private static final String NEW_SORTER = "CrossdockSorter sorter = new CrossdockSorter();";
    private static final Pattern CALL = Pattern.compile(
            "sorter\\.(\\w+)\\((|-?\\d+(?:, -?\\d+)*)\\); +// ('.'|throws \\w+|[-.\\w]+)(?:: .+)?");

    private ReadmeTest() {
    }

    public static void main(String[] args) throws IOException {
        Set<String> shown = new TreeSet<>();
        CrossdockSorter sorter = null;
        String fence = "";
        for (String line : Files.readAllLines(Path.of("README.md"))) {
            if (line.startsWith(FENCE)) {
                fence = fence.isEmpty() ? line : "";
            } else if (fence.equals(FENCE + "java") && line.equals(NEW_SORTER)) {
                sorter = new CrossdockSorter();
            } else if (fence.equals(FENCE + "java")) {
                shown.add(dueAsShown(sorter, line));
            }
        }
        Checks.due("README.md shows calls of", shown, Call.names());
        Checks.end("ReadmeTest");
    }

    /** Makes the call in a line on the sorter, and tells its name. */
    private static String dueAsShown(CrossdockSorter sorter, String line) {
        Matcher call = CALL.matcher(line);
        if (sorter == null || !call.matches() || !Call.names().contains(call.group(1))) {
            Checks.due("README.md: " + line, "no call on a sorter", "an answer");
            return line;
        }
        int[] arguments = Arrays.stream(call.group(2).split(", ")).filter(text -> !text.isEmpty())
                .mapToInt(Integer::parseInt).toArray();
        Object answer = new Call(call.group(1), arguments).on(sorter);
        Checks.due("README.md: " + line, shown(answer), call.group(3));
        return call.group(1);
    }

    private static String shown(Object answer) {
        if (answer instanceof Character) {
            return "'" + answer + "'";
        }
        return answer instanceof Class ? "throws " + ((Class<?>) answer).getSimpleName() : answer.toString();
    }
}
