import java.io.IOException;
import java.nio.file.Files;
import java.nio.file.Path;
import java.util.regex.Matcher;
import java.util.regex.Pattern;

/** TESTS.md: every test that it names is there, and is run by its class. Run from the project's directory. */
public final class MapTest {
    public static void main(String[] args) throws IOException {
        Matcher named = Pattern.compile("`(\\w+Test)\\.(\\w+)`").matcher(Files.readString(Path.of("TESTS.md")));
        while (named.find()) {
            look(named.group(1), named.group(2));
        }
        Check.end("MapTest");
    }

    private static void look(String name, String method) throws IOException {
        Path file = Path.of("src/test/java", name + ".java");
        String text = Files.exists(file) ? Files.readString(file) : "";
        Check.yes(name + "." + method + " is there", text.contains("static void " + method + "("));
        Check.yes(name + "." + method + " is run", Pattern.compile("\n +" + method + "\\(").matcher(text).find());
    }
}
