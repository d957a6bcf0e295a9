import java.io.IOException;
import java.nio.file.Files;
import java.nio.file.Path;
import java.util.List;
import java.util.regex.Matcher;
import java.util.regex.Pattern;

/** Those rules of LANGUAGE.md that can be seen in the text of the program. */
public final class LanguageTest {
    private static final String FORBIDDEN = "\\b(throw|throws|try|catch|synchronized|assert|static \\{|var|volatile"
        + "|native|Exact|Random|Thread|System\\.(?!arraycopy)|HashMap|Map|Set|Optional|Stream)\\b|->|::|@";

    public static void main(String[] args) throws IOException {
        Check check = new Check();
        List<String> lines = Files.readAllLines(Path.of("src/main/java/TheEchosWidow.java"));
        Pattern forbidden = Pattern.compile(FORBIDDEN);
        int from = -1;
        String method = "";
        for (int i = 0; i < lines.size(); i++) {
            String line = lines.get(i);
            String code = line.replaceAll("//.*", "").replaceAll("/\\*.*", "");
            Matcher found = forbidden.matcher(code);
            check.holds("line " + (i + 1) + " keeps to the language: " + line, !found.find());
            check.holds("line " + (i + 1) + " has signs 1 to 127 alone", line.chars().allMatch(c -> c > 0 && c < 128));
            check.holds("line " + (i + 1) + " is not too long", line.length() <= 120);
            if (code.startsWith("package ") || code.startsWith("import ")) {
                check.holds(code + " is listed", code.equals("import java.util.Arrays;"));
            }
            if (code.matches("    (    )?\\S.*\\) \\{") && !code.matches(".*\\b(if|for|while|switch)\\b.*")) {
                from = i;
                method = code.trim();
                int parameters = code.contains("()") ? 0 : code.split(",").length;
                check.holds(method + " takes at most seven", parameters <= 7);
            }
            if (from >= 0 && (code.equals("    }") || code.equals("        }"))) {
                check.holds(method + " is short", i - from <= 60);
            }
        }
        check.end("LanguageTest");
    }
}
