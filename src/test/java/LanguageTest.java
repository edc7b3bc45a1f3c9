import java.io.IOException;
import java.nio.file.Files;
import java.nio.file.Path;
import java.util.List;
import java.util.regex.Matcher;
import java.util.regex.Pattern;

/** Those rules of LANGUAGE.md that can be seen in the text of the program. Runs in the project's folder. */
public final class LanguageTest {
    private static final Path PROGRAM = Path.of("src/main/java/HintPlacer.java");
    private static final int MOST_LINES = 60;
    private static final int MOST_PARAMETERS = 7;

    private static int wrong = 0;

    public static void main(String[] args) throws IOException {
        List<String> lines = Files.readAllLines(PROGRAM);
        String[] banned = {"\\b(throw|throws|try|catch|synchronized|assert|import|package|native|volatile|transient)\\b",
            "->", "::", "\\b(hashCode|toString|equals|System|Thread|Random|Runtime)\\b", "\"", "\\bprotected\\b", "Exact\\("};
        for (int i = 0; i < lines.size(); i++) {
            String code = lines.get(i).replaceAll("//.*|^\\s*/\\*\\*.*|^\\s*\\*.*", "");
            for (String word : banned) {
                if (Pattern.compile(word).matcher(code).find()) {
                    complain(i, "has " + word);
                }
            }
            if (!code.equals(code.replaceAll("[^\\x20-\\x7e]", ""))) {
                complain(i, "has a sign that is not plain");
            }
        }
        checkMethods(lines);
        checkIndexes(lines);
        if (wrong != 0) {
            System.exit(1);
        }
    }

    private static void complain(int line, String what) {
        wrong++;
        System.out.println(PROGRAM + ":" + (line + 1) + " " + what);
    }

    private static void checkMethods(List<String> lines) {
        Pattern head = Pattern.compile("^( +)(?:[a-z]+ )*[A-Za-z\\[\\]]+ ?[A-Za-z0-9]*\\(([^)]*)\\) \\{$");
        int methods = 0;
        for (int i = 0; i < lines.size(); i++) {
            Matcher matcher = head.matcher(lines.get(i));
            if (!matcher.matches() || lines.get(i).matches("\\s*(if|for|while|switch) .*")) {
                continue;
            }
            methods++;
            int end = i;
            while (!lines.get(end).equals(matcher.group(1) + "}")) {
                end++;
            }
            if (end - i + 1 > MOST_LINES) {
                complain(i, "begins a method of more than " + MOST_LINES + " lines");
            }
            if (matcher.group(2).split(",").length > MOST_PARAMETERS) {
                complain(i, "begins a method of more than " + MOST_PARAMETERS + " parameters");
            }
        }
        if (methods < 22) {
            complain(0, "shows too few methods to this test: " + methods);
        }
    }

    /** The class Row alone uses indexes, behind a test of them; nothing is divided but by constants. */
    private static void checkIndexes(List<String> lines) {
        for (int i = 0; i < lines.size(); i++) {
            String code = lines.get(i).replaceAll("//.*|^\\s*/\\*\\*.*|^\\s*\\*.*", "");
            if (code.contains("cells[index]")) {
                String before = lines.get(i - 1) + code;
                if (!before.contains("index >= 0 && index < cells.length")) {
                    complain(i, "uses an index that was not looked at");
                }
            } else if (Pattern.compile("\\w\\[\\w").matcher(code.replace("new int[Math.max(0, length)]", "")).find()) {
                complain(i, "uses an index outside the class Row");
            }
            if (Pattern.compile("/ |%(?! (SIDES|MOST_STATES)\\b)").matcher(code).find()) {
                complain(i, "divides by what may be 0");
            }
        }
    }
}
