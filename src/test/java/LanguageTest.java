import java.io.IOException;
import java.lang.reflect.Field;
import java.lang.reflect.Modifier;
import java.nio.file.Files;
import java.nio.file.Path;
import java.util.ArrayList;
import java.util.List;
import java.util.Set;
import java.util.regex.Matcher;
import java.util.regex.Pattern;

/** Those rules of LANGUAGE.md that can be seen in the text of the program. */
public final class LanguageTest {
    private static final Path PROGRAM = Path.of("src/main/java/TheEchosWidow.java");
    private static final Pattern FORBIDDEN = Pattern.compile("\\b(throw|throws|try|catch|synchronized|assert|static \\{"
        + "|var|volatile|native|transient|while|do|instanceof)\\b|->|::|@");
    private static final Pattern OF_LIBRARY = Pattern.compile("\\b(Arrays|Boolean|Byte|Character|Double|Float|Integer"
        + "|Iterator|List|Long|Math|Object|Objects|Short|String|System|Thread|Runtime)\\s*\\.\\s*(\\w+)\\s*(\\(?)");
    private static final Pattern TYPE = Pattern.compile("\\b[A-Z][A-Za-z0-9]*[a-z][A-Za-z0-9]*\\b");
    private static final Pattern LOOP = Pattern.compile("\\bfor \\((.*)\\) \\{");
    /* A counter from a number, against a bound, which goes up by one at least: each seen in the loop's own line. */
    private static final Pattern COUNTED = Pattern.compile("int (\\w+) = \\d+; .*\\b\\1 <=? (\\w+|\\w+\\.\\w+|\\w+\\.length\\(\\)"
        + "|1 << \\w+\\.\\w+)( && [^;]*)?; \\1(\\+\\+| \\+= Math\\.max\\(1, .*\\))");
    /* Functions that rule 4 lists and the program uses. */
    private static final Set<String> LISTED = Set.of("Arrays.fill", "Integer.bitCount", "Math.abs", "Math.max", "Math.min",
        "System.arraycopy");
    private static final Set<String> TYPES = Set.of("TheEchosWidow", "Gorge", "Heard", "Text", "String", "Arrays",
        "Integer", "Math", "System");

    private final Check check = new Check();
    private final List<String> lines = new ArrayList<>();

    public static void main(String[] args) throws IOException {
        LanguageTest test = new LanguageTest();
        for (String line : Files.readAllLines(PROGRAM)) {
            test.check.holds("signs 1 to 127 alone: " + line, line.chars().allMatch(c -> c > 0 && c < 128));
            test.check.holds("not too long: " + line, line.length() <= 120);
            test.lines.add(withoutComment(line));
        }
        test.linesKeepToTheLanguage();
        test.libraryIsWhatIsListed();
        test.loopsEnd();
        test.methodsAreShort();
        test.objectsAreMadeOnce();
        test.classesAreSmall();
        test.check.end("LanguageTest");
    }

    private static String withoutComment(String line) {
        return line.replaceAll("//.*", "").replaceAll("/\\*.*", "");
    }

    private void linesKeepToTheLanguage() {
        check.begin("rule 6: no throw, try, catch; rule 2: no lambda, no method reference");
        for (int i = 0; i < lines.size(); i++) {
            check.holds("line " + (i + 1) + ": " + lines.get(i), !FORBIDDEN.matcher(lines.get(i)).find());
        }
    }

    private void libraryIsWhatIsListed() {
        check.begin("rule 4, the library: only what stands here");
        for (String code : lines) {
            if (code.startsWith("package ") || code.startsWith("import ")) {
                check.due(code, code.equals("import java.util.Arrays;") ? 1 : 0, 1);
                continue;
            }
            Matcher used = OF_LIBRARY.matcher(code);
            while (used.find()) {
                String name = used.group(1) + "." + used.group(2);
                check.holds(name + " is a listed function: " + code, used.group(3).equals("(") && LISTED.contains(name));
            }
            Matcher type = TYPE.matcher(code.replaceAll("\"[^\"]*\"", ""));
            while (type.find()) {
                check.holds(type.group() + " is a listed type: " + code, TYPES.contains(type.group()));
            }
        }
    }

    private void loopsEnd() {
        check.begin("rule 9: every loop has an end that can be seen from its own lines");
        for (String code : lines) {
            Matcher loop = LOOP.matcher(code);
            if (loop.find()) {
                check.holds(code.trim(), COUNTED.matcher(loop.group(1)).matches());
            }
        }
    }

    private void methodsAreShort() {
        check.begin("rule 11: a method takes at most seven parameters; methods stay short (some sixty lines)");
        int from = -1;
        String method = "";
        for (int i = 0; i < lines.size(); i++) {
            String code = lines.get(i);
            if (code.matches("    (    )?\\S.*\\) \\{") && !code.matches(".*\\b(if|for|while|switch)\\b.*")) {
                from = i;
                method = code.trim();
                int parameters = code.contains("()") ? 0 : code.split(",").length;
                check.holds(method + " takes at most seven", parameters <= 7);
            }
            if (from >= 0 && (code.equals("    }") || code.equals("        }"))) {
                check.holds(method + " is short", i - from <= 60);
            }
        }
    }

    private void objectsAreMadeOnce() {
        check.begin("rule 12: what is made is made with the object, none by a call");
        for (String code : lines) {
            if (code.matches(".*\\bnew\\b.*")) {
                check.holds(code.trim(), code.matches("    (    )?(private )?final .* = new .*;"));
            }
        }
    }

    private void classesAreSmall() {
        check.begin("rule 11: at most some twelve classes, a class some twenty fields; rule 5: static fields are final");
        List<Class<?>> classes = new ArrayList<>(List.of(TheEchosWidow.class.getDeclaredClasses()));
        classes.add(TheEchosWidow.class);
        check.holds("classes: " + classes.size(), classes.size() <= 12);
        for (Class<?> c : classes) {
            int fields = 0;
            for (Field f : c.getDeclaredFields()) {
                boolean isStatic = Modifier.isStatic(f.getModifiers());
                fields += isStatic ? 0 : 1;
                check.holds(f + " is final if static", !isStatic || Modifier.isFinal(f.getModifiers()));
            }
            check.holds(c + " has so many fields: " + fields, fields <= 20);
        }
    }
}
