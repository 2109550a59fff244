import java.lang.reflect.Method;
import java.lang.reflect.Modifier;
import java.nio.file.Files;
import java.nio.file.Path;
import java.util.regex.Matcher;
import java.util.regex.Pattern;

/** README.md: that every call of the class stands in it, and that its examples answer what they say. */
public final class ReadmeTest extends Check {
    private static final Pattern EXAMPLE = Pattern.compile("^x\\.(\\w+)\\(([^)]*)\\); *// (-?\\d+): ", Pattern.MULTILINE);
    private static final Pattern TEXT = Pattern.compile("```text\n(.*)\n```");

    public static void main(String[] args) throws Exception {
        String page = Files.readString(Path.of("README.md"));
        everyCall(page);
        examples(page);
        text(page);
        end();
    }

    private static void everyCall(String page) {
        for (Method m : HoleFills.class.getDeclaredMethods()) {
            if (Modifier.isPublic(m.getModifiers())) {
                String arguments = argumentsOf(m.getParameterCount());
                Matcher row = Pattern.compile("\\| `" + m.getName() + "\\(" + arguments + "\\)` \\|").matcher(page);
                due("README: rows of " + m.getName(), row.results().count(), 1);
            }
        }
    }

    private static String argumentsOf(int n) {
        return n == 0 ? "" : "\\w+" + ", \\w+".repeat(n - 1);
    }

    private static void examples(String page) throws Exception {
        HoleFills x = new HoleFills();
        int examples = 0;
        Matcher line = EXAMPLE.matcher(page);
        while (line.find()) {
            examples++;
            due("README: " + line.group(1), answerOf(x, line.group(1), line.group(2)), Long.parseLong(line.group(3)));
        }
        due("README: lines that begin with x.", Pattern.compile("(?m)^x\\.").matcher(page).results().count(), examples);
        due("README: has examples", examples > 0 ? 1 : 0, 1);
    }

    private static long answerOf(HoleFills x, String name, String told) throws Exception {
        String[] numbers = told.isEmpty() ? new String[0] : told.split(", ");
        Class<?>[] types = new Class<?>[numbers.length];
        Object[] values = new Object[numbers.length];
        for (int i = 0; i < numbers.length; i++) {
            types[i] = int.class;
            values[i] = Integer.valueOf(numbers[i]);
        }
        return ((Number) HoleFills.class.getMethod(name, types).invoke(x, values)).longValue();
    }

    private static void text(String page) {
        Matcher text = TEXT.matcher(page);
        due("README: has a text", text.find() ? 1 : 0, 1);
        HoleFills x = new HoleFills();
        due("README: items of the text", told(x, text.group(1)), 4);
        due("README: its hole", x.of(0, 0), DUCK);
        due("README: its budget", x.now(1), 900);
    }
}
