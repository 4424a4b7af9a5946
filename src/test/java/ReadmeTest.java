import java.io.IOException;
import java.nio.file.Files;
import java.nio.file.Path;
import java.util.regex.Matcher;
import java.util.regex.Pattern;

/** The calls that README.md shows answer what it says; run from the project's root. */
public final class ReadmeTest {
    private static final Due d = new Due();
    private static final Pattern BLOCK = Pattern.compile("(?s)```run\n(.*?)```");

    public static void main(String[] args) throws IOException {
        Matcher m = BLOCK.matcher(Files.readString(Path.of("README.md")));
        int runs = 0;
        while (m.find()) {
            // A row that ends with ; goes on in the next line.
            for (String run : m.group(1).replace(";\n", "; ").split("\n")) {
                Run.holds(d, "README", run);
                runs++;
            }
        }
        d.eq("runs in README.md", runs >= 10 ? 1 : 0, 1);
        d.end();
    }
}
