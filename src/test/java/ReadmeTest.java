import java.io.IOException;
import java.lang.reflect.Field;
import java.lang.reflect.Method;
import java.lang.reflect.Modifier;
import java.nio.charset.StandardCharsets;
import java.nio.file.Files;
import java.nio.file.Path;
import java.util.ArrayList;
import java.util.Arrays;
import java.util.List;
import java.util.regex.Matcher;
import java.util.regex.Pattern;

/** README.md: the calls that it shows have the answers that stand behind them, and its tables are those of the face. */
public final class ReadmeTest {
    private static final Pattern CODE = Pattern.compile("(?s)```java\n(.*?)```");
    private static final Pattern CALL = Pattern.compile("x\\.(\\w+)\\(([^)]*)\\);\\s+// (-?\\w+)(?:: .+)?");
    private static final Pattern ROW = Pattern.compile("(?m)^\\| `(\\w+)\\(([^)]*)\\)` \\| .+ \\|$");
    private static final Pattern CODE_ROW = Pattern.compile("(?m)^\\| `([A-Z]+)` \\| (-\\d+) \\| .+ \\|$");
    private static final String NEW = "StyleFamilies x = new StyleFamilies();";

    private final Due due = new Due();
    private final String text;

    private ReadmeTest(String text) {
        this.text = text;
    }

    public static void main(String[] args) throws IOException, ReflectiveOperationException {
        ReadmeTest test = new ReadmeTest(Files.readString(Path.of("README.md"), StandardCharsets.US_ASCII));
        test.callsThatItShows();
        test.tableOfCalls();
        test.tableOfErrorCodes();
        test.due.end();
    }

    private void callsThatItShows() throws ReflectiveOperationException {
        Matcher code = CODE.matcher(text);
        int blocks = 0;
        while (code.find()) {
            blocks++;
            List<String> lines = code.group(1).lines().toList();
            due.isTrue("block " + blocks + " begins with a new object", lines.get(0).equals(NEW));
            StyleFamilies x = new StyleFamilies();
            for (String line : lines.subList(1, lines.size())) {
                shown(x, line);
            }
        }
        due.isTrue("there are calls to see", blocks > 0);
    }

    private void shown(StyleFamilies x, String line) throws ReflectiveOperationException {
        Matcher call = CALL.matcher(line);
        boolean fits = call.matches();
        due.isTrue("a call with its answer: " + line, fits);
        if (fits) {
            int[] arguments = parts(call.group(2)).stream().mapToInt(Integer::parseInt).toArray();
            due.is(line, new Call(call.group(1), arguments).on(x), number(call.group(3)));
        }
    }

    /** An answer is a number or the name of a constant. */
    private static int number(String answer) throws ReflectiveOperationException {
        return Character.isUpperCase(answer.charAt(0))
            ? StyleFamilies.class.getField(answer).getInt(null)
            : Integer.parseInt(answer);
    }

    private static List<String> parts(String inside) {
        return inside.isBlank() ? List.of() : Arrays.asList(inside.split(", "));
    }

    private void tableOfCalls() {
        List<String> rows = new ArrayList<>();
        Matcher row = ROW.matcher(text);
        while (row.find()) {
            rows.add(row.group(1) + " " + parts(row.group(2)).size());
        }
        List<String> face = new ArrayList<>();
        for (Method method : StyleFamilies.class.getDeclaredMethods()) {
            if (Modifier.isPublic(method.getModifiers())) {
                face.add(method.getName() + " " + method.getParameterCount());
            }
        }
        rows.sort(null);
        face.sort(null);
        due.isTrue("the table has each call of the face once: " + rows, rows.equals(face));
    }

    private void tableOfErrorCodes() throws ReflectiveOperationException {
        int constants = 0;
        for (Field field : StyleFamilies.class.getFields()) {
            constants += field.getName().equals("NONE") ? 0 : 1;
        }
        Matcher row = CODE_ROW.matcher(text);
        int rows = 0;
        while (row.find()) {
            rows++;
            due.is(row.group(1), number(row.group(1)), Integer.parseInt(row.group(2)));
        }
        due.is("the table has each error code", rows, constants);
        due.isTrue("NONE", text.contains("`NONE` is " + StyleFamilies.NONE + " "));
    }
}
