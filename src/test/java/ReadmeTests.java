import java.io.IOException;
import java.lang.reflect.Method;
import java.nio.file.Files;
import java.nio.file.Path;
import java.util.ArrayList;
import java.util.List;
import java.util.Set;
import java.util.TreeSet;
import java.util.regex.Matcher;
import java.util.regex.Pattern;

/** README.md says what holds: its example's answers, and each call with its arguments and errors. */
public final class ReadmeTests {
    private static final Pattern EXAMPLE = Pattern.compile("x\\.(\\w+)\\((.*)\\);\\s*// (-?\\d+|[A-Z_]+)\\b.*");
    private static final Pattern ROW = Pattern.compile("\\| `(\\w+)\\((.*?)\\)` \\|[^|]*\\|([^|]*)\\|");
    private static final Pattern ERROR = Pattern.compile("`([A-Z_]+)` \\| (-\\d+)");
    private static final Pattern FACE = Pattern.compile("`int (\\w+)\\((.*?)\\)`");
    private static final List<String> ERRORS =
        List.of("INVALID_ARGUMENT", "NOT_POSSIBLE", "LIMIT_REACHED", "NOT_FOUND");

    public static void main(String[] args) throws ReflectiveOperationException, IOException {
        String page = Files.readString(Path.of("README.md"));
        example(page);
        calls(page);
        errors(page);
        Due.end();
    }

    private static void example(String page) throws ReflectiveOperationException {
        QuantileDigests x = new QuantileDigests();
        int told = 0;
        for (Matcher line = EXAMPLE.matcher(page); line.find(); told++) {
            Due.due("README.md's " + line.group(), answer(x, line.group(1), line.group(2)), number(line.group(3)));
        }
        Due.due("each x. in README.md is a call with its answer; they", page.split("(?m)^x\\.", -1).length - 1, told);
        Due.holds("README.md has an example", told > 0);
    }

    private static int answer(QuantileDigests x, String name, String told) throws ReflectiveOperationException {
        List<Object> arguments = new ArrayList<>();
        for (String argument : told.split(", ")) {
            if (!argument.isEmpty()) {
                boolean isCharacter = argument.startsWith("'");
                arguments.add(isCharacter ? (int) argument.charAt(1) : Integer.parseInt(argument));
            }
        }
        for (Method method : QuantileDigests.class.getDeclaredMethods()) {
            if (method.getName().equals(name) && method.getParameterCount() == arguments.size()) {
                return (Integer) method.invoke(x, arguments.toArray());
            }
        }
        throw new NoSuchMethodException(name + " of " + told);
    }

    private static int number(String told) throws ReflectiveOperationException {
        return ERRORS.contains(told) ? QuantileDigests.class.getField(told).getInt(null) : Integer.parseInt(told);
    }

    /** The rows are compared with the document's promises, so that neither has a call, or an error, of its own. */
    private static void calls(String page) {
        Set<String> told = new TreeSet<>();
        for (Matcher row = ROW.matcher(page); row.find();) {
            told.add(call(row.group(1), row.group(2), row.group(3)));
        }
        Set<String> promised = new TreeSet<>();
        for (int promise = 2; promise <= 21; promise++) {
            String words = Document.wordsOf("Promise " + promise);
            Matcher face = FACE.matcher(words);
            if (face.find()) {
                promised.add(call(face.group(1), face.group(2).replace("int ", ""), words));
            }
        }
        if (Document.isThere()) {
            Due.holds("README.md's calls " + told + " are the document's " + promised, told.equals(promised));
        }
    }

    private static String call(String name, String arguments, String words) {
        StringBuilder call = new StringBuilder(name).append('(').append(arguments).append(')');
        for (String error : ERRORS) {
            call.append(words.contains(error) ? " " + error : "");
        }
        return call.toString();
    }

    private static void errors(String page) throws ReflectiveOperationException {
        List<String> told = new ArrayList<>();
        for (Matcher row = ERROR.matcher(page); row.find();) {
            told.add(row.group(1));
            Due.due("README.md's " + row.group(1), Integer.parseInt(row.group(2)), number(row.group(1)));
        }
        Due.holds("README.md has the errors in their order, not " + told, told.equals(ERRORS));
    }
}
