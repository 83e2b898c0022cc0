import java.io.ByteArrayOutputStream;
import java.io.IOException;
import java.io.PrintStream;
import java.nio.file.Files;
import java.nio.file.Path;

/** README.md shows the example as it is, and what it prints; run in the project's directory. */
public final class ReadmeTest {

    public static void main(String[] args) throws IOException {
        Check check = new Check();
        String readme = Files.readString(Path.of("README.md"));
        check.is("the example in README.md", block(readme, "java"),
                Files.readString(Path.of("src/test/java/Example.java")));
        check.is("what README.md says that the example prints", block(readme, "text"), printedByExample());
        check.end();
    }

    /** The first block of the language, or nothing. */
    private static String block(String text, String language) {
        String begin = "```" + language + "\n";
        int from = text.indexOf(begin);
        int to = from < 0 ? -1 : text.indexOf("```", from + begin.length());
        return to < 0 ? "" : text.substring(from + begin.length(), to);
    }

    private static String printedByExample() {
        PrintStream before = System.out;
        ByteArrayOutputStream printed = new ByteArrayOutputStream();
        System.setOut(new PrintStream(printed, true));
        Example.main(new String[0]);
        System.setOut(before);
        return printed.toString().replace("\r\n", "\n");
    }
}
