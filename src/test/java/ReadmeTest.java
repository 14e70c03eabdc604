import java.lang.reflect.Method;
import java.lang.reflect.Modifier;
import java.nio.file.Files;
import java.nio.file.Path;
import java.util.regex.Matcher;
import java.util.regex.Pattern;

/** What README.md shows is so: its examples answer what stands behind them, and its table has each call. */
public final class ReadmeTest extends Asking {
    private static final Pattern EXAMPLE = Pattern.compile("hill\\.(\\w+)\\(([^)]*)\\); +// (-?\\d+):.*");
    private static final Pattern ROW = Pattern.compile("(?m)^\\| `(\\w+)\\(([^)]*)\\)` \\|");
    private static final String MADE = "TunnelHearsay hill = new TunnelHearsay();";

    public static void main(String[] args) throws Exception {
        String page = Files.readString(Path.of("README.md"));
        examples(page);
        table(page);
        end();
    }

    private static void examples(String page) {
        String[] parts = page.split("```");
        int blocks = 0;
        // Every second part stands between two marks.
        for (int i = 1; i < parts.length; i += 2) {
            blocks++;
            says("example " + blocks + " of README.md");
            example(parts[i].split("\n"));
        }
        says("README.md has examples");
        due("blocks", blocks, 3);
    }

    private static void example(String[] rows) {
        due("it is in Java, on a new hill", rows[0].equals("java") && rows[1].equals(MADE) ? 1 : 0, 1);
        TunnelHearsay hill = new TunnelHearsay();
        for (int i = 2; i < rows.length; i++) {
            Matcher row = EXAMPLE.matcher(rows[i]);
            if (!row.matches()) {
                due("a row that is no call with its answer: " + rows[i], 0, 1);
                continue;
            }
            Call call = new Call(row.group(1), numbers(row.group(1), row.group(2)));
            due(call.toString(), call.ask(hill), Long.parseLong(row.group(3)));
        }
    }

    private static Object[] numbers(String name, String with) {
        if (with.isEmpty()) {
            return new Object[0];
        }
        String[] texts = with.split(", ");
        Object[] numbers = new Object[texts.length];
        for (int i = 0; i < texts.length; i++) {
            boolean word = name.equals("feed") && i == 0;
            numbers[i] = word ? (Object) Long.decode(texts[i].replace("L", "")) : (Object) Integer.decode(texts[i]);
        }
        return numbers;
    }

    private static void table(String page) {
        says("the calls in README.md");
        for (Method method : TunnelHearsay.class.getDeclaredMethods()) {
            if (Modifier.isPublic(method.getModifiers())) {
                due(method.getName() + " with all it takes", rowsOf(page, method), 1);
            }
        }
    }

    private static int rowsOf(String page, Method method) {
        int found = 0;
        Matcher row = ROW.matcher(page);
        while (row.find()) {
            int takes = row.group(2).isEmpty() ? 0 : row.group(2).split(", ").length;
            found += row.group(1).equals(method.getName()) && takes == method.getParameterCount() ? 1 : 0;
        }
        return found;
    }
}
