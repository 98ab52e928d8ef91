import java.io.IOException;
import java.nio.file.Files;
import java.nio.file.Path;
import java.util.List;
import java.util.regex.Matcher;
import java.util.regex.Pattern;

/** Words that ../shared/LANGUAGE.md does not leave to the class. */
public final class LanguageTests {
    private static final Path SOURCE = Path.of("src/main/java/QuantileDigests.java");
    private static final List<String> RULED_OUT = List.of("\\b(try|catch|throw|throws|synchronized|assert)\\b",
        "\\b(import|package|protected|instanceof|native|volatile|transient)\\b", "->", "::", "@", "\\bstatic\\s*\\{",
        "\\bObject\\b", "\\bSystem\\.(?!arraycopy\\b)", "\\bArrays\\.(?!copyOf\\b|copyOfRange\\b|fill\\b)",
        "\\b\\w+Exact\\b", "\\b(Float|Double|Character|Random|Thread)\\b", "\\bnew \\w+(<[^>]*>)?\\([^)]*\\)\\s*\\{");

    public static void main(String[] args) throws IOException {
        String code = Files.readString(SOURCE).replaceAll("(?s)/\\*.*?\\*/|//[^\\n]*", "").replaceAll("'.'", "' '");
        for (String word : RULED_OUT) {
            Matcher matcher = Pattern.compile(word).matcher(code);
            Due.holds("no " + word + " in the class", !matcher.find());
        }
        Matcher longest = Pattern.compile("(?m)^( +)\\S.*\\) \\{\\n(?:(?!\\1\\}\\n).*\\n){60,}?\\1\\}\\n").matcher(code);
        Due.holds("no method of over sixty lines", !longest.find());
        Due.end();
    }
}
