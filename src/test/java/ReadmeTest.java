import java.io.File;
import java.io.IOException;
import java.lang.reflect.Method;
import java.lang.reflect.Modifier;
import java.nio.file.Files;
import java.nio.file.Path;
import java.util.List;
import java.util.regex.Matcher;
import java.util.regex.Pattern;

/** README.md: what it says that calls answer, in their order on one object; that it names every call and every test. */
public final class ReadmeTest {
    private static final Pattern CALL = Pattern.compile(" +sheet\\.(\\w+)\\((.*)\\); +// (-?[0-9]+): .*");
    private static int asked;
    private static int wrong;

    public static void main(String[] args) throws IOException {
        List<String> lines = Files.readAllLines(Path.of("README.md"));
        PosterSheet sheet = new PosterSheet();
        int calls = 0;
        for (String line : lines) {
            Matcher matcher = CALL.matcher(line);
            if (matcher.matches()) {
                calls++;
                long answer = Calls.answer(sheet, matcher.group(1), numbers(matcher.group(2)));
                due(line.trim() + " answered " + answer, answer == Long.parseLong(matcher.group(3)));
            } else {
                due("a call that is told otherwise: " + line, !line.startsWith("    sheet."));
            }
        }
        due("the example has " + calls + " calls", calls >= 10);
        namesAll(String.join("\n", lines));
        System.out.println(asked + " places, " + wrong + " not as due");
        if (wrong != 0) {
            System.exit(1);
        }
    }

    private static void due(String what, boolean is) {
        asked++;
        if (!is) {
            wrong++;
            System.out.println(what);
        }
    }

    private static Object[] numbers(String told) {
        if (told.isEmpty()) {
            return new Object[0];
        }
        String[] parts = told.split(", ");
        Object[] numbers = new Object[parts.length];
        for (int i = 0; i < parts.length; i++) {
            boolean isByte = parts[i].startsWith("'");
            numbers[i] = isByte ? (int) parts[i].charAt(1) : Integer.parseInt(parts[i]);
        }
        return numbers;
    }

    private static void namesAll(String page) {
        for (String file : new File("src/test/java").list()) {
            String name = file.replace(".java", "");
            due(name + " is not named", page.contains("`" + name + "`"));
        }
        for (Method method : PosterSheet.class.getDeclaredMethods()) {
            boolean isPublic = Modifier.isPublic(method.getModifiers());
            due(method.getName() + " is not named", !isPublic || page.contains("`" + method.getName() + "`"));
        }
    }
}
