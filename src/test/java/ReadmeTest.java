import java.io.IOException;
import java.nio.file.Files;
import java.nio.file.Path;
import java.util.HashSet;
import java.util.Set;
import java.util.regex.Matcher;
import java.util.regex.Pattern;

/** Whether each call that README.md shows answers what it says there, and every method is shown. */
public final class ReadmeTest {
    private static final Pattern SHOWN = Pattern.compile("^x\\.(\\w+\\(.*\\)); +// (true|false|-?\\d+)(:.*)?$");

    private static final Due due = new Due();

    public static void main(String[] args) throws IOException {
        MadeItSo x = new MadeItSo();
        Set<String> methods = new HashSet<>();
        for (String line : Files.readAllLines(Path.of("README.md"))) {
            Matcher shown = SHOWN.matcher(line);
            due.yes("read: " + line, !line.startsWith("x.") || shown.matches());
            if (shown.matches()) {
                Call call = Call.parse(shown.group(1));
                due.same(line, call.on(x), answer(shown.group(2)));
                methods.add(call.name());
            }
        }
        due.same("methods shown", methods.size(), 21);
        due.end();
    }

    private static long answer(String word) {
        return word.equals("true") ? 1 : word.equals("false") ? 0 : Long.parseLong(word);
    }
}
