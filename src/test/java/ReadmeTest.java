import java.io.IOException;
import java.lang.reflect.Method;
import java.lang.reflect.Modifier;
import java.nio.file.Files;
import java.nio.file.Path;
import java.util.regex.Matcher;
import java.util.regex.Pattern;

/** What README.md says of the use of the class is so. */
public final class ReadmeTest {
    private static final Pattern TOLD = Pattern.compile("\"([^\"]*)\"\\.toCharArray\\(\\)");
    private static final Pattern CALL = Pattern.compile("x\\.(\\w+)\\(([-\\d, ]*)\\);\\s*// (-?\\d+): .*");
    private static final Pattern STATEMENT = Pattern.compile("(?m)^\\| `(\\w+;)` \\|");

    private final Check check = new Check();
    private final String page;

    private ReadmeTest() throws IOException {
        page = Files.readString(Path.of("README.md"));
    }

    public static void main(String[] args) throws ReflectiveOperationException, IOException {
        ReadmeTest test = new ReadmeTest();
        test.example();
        test.statements();
        test.calls();
        test.check.end("ReadmeTest");
    }

    private void example() throws ReflectiveOperationException {
        check.begin("the example answers what stands behind each call");
        int from = page.indexOf("```java\n") + 8;
        String block = page.substring(from, page.indexOf("```", from));
        TheEchosWidow x = new TheEchosWidow();
        int answers = 0;
        for (String line : block.split("\n")) {
            Matcher told = TOLD.matcher(line);
            if (told.find()) {
                Check.tell(x, told.group(1));
            }
            Matcher call = CALL.matcher(line);
            if (call.matches()) {
                check.due(line, answer(x, call.group(1), call.group(2)), Integer.parseInt(call.group(3)));
                answers++;
            }
        }
        check.holds("every line that tells an answer is looked at: " + answers, answers == block.split("\nx\\.").length - 1);
    }

    private static int answer(TheEchosWidow x, String name, String numbers) throws ReflectiveOperationException {
        String[] words = numbers.isEmpty() ? new String[0] : numbers.split(", ");
        Object[] arguments = new Object[words.length];
        Class<?>[] types = new Class<?>[words.length];
        for (int i = 0; i < words.length; i++) {
            arguments[i] = Integer.valueOf(words[i]);
            types[i] = int.class;
        }
        return (Integer) TheEchosWidow.class.getMethod(name, types).invoke(x, arguments);
    }

    private void statements() {
        check.begin("each statement of the table can be told");
        Matcher statement = STATEMENT.matcher(page);
        StringBuilder first = new StringBuilder();
        while (statement.find()) {
            TheEchosWidow x = Check.of("cc05007;");
            check.due(statement.group(1), Check.gorge(x, statement.group(1)), 1);
            first.append(statement.group(1).charAt(0));
        }
        check.holds("every statement that there is: " + first, first.toString().equals("cktuphd"));
    }

    private void calls() {
        check.begin("every call of the face is told of, and no other");
        StringBuilder names = new StringBuilder();
        for (Method m : TheEchosWidow.class.getDeclaredMethods()) {
            if (Modifier.isPublic(m.getModifiers())) {
                check.holds(m.getName(), page.contains("`" + m.getName() + "("));
                names.append(' ').append(m.getName()).append(' ');
            }
        }
        Matcher told = Pattern.compile("`(\\w+)\\([\\w, ]*\\)`").matcher(page);
        while (told.find()) {
            check.holds(told.group(), names.indexOf(" " + told.group(1) + " ") >= 0);
        }
    }
}
