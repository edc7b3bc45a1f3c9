import java.io.ByteArrayOutputStream;
import java.io.PrintStream;
import java.lang.reflect.Method;
import java.lang.reflect.Modifier;
import java.net.URL;
import java.net.URLClassLoader;
import java.nio.charset.StandardCharsets;
import java.nio.file.Files;
import java.nio.file.Path;
import java.util.ArrayList;
import java.util.Comparator;
import java.util.List;
import java.util.regex.Matcher;
import java.util.regex.Pattern;
import java.util.stream.Stream;
import javax.tools.JavaCompiler;
import javax.tools.ToolProvider;

/** What README.md says of the use of HintPlacer works as it is written there. */
public final class ReadmeTest {
    private static int wrong = 0;

    public static void main(String[] args) throws Exception {
        String readme = Files.readString(Path.of("README.md"), StandardCharsets.UTF_8);
        everyCallStandsInTheTables(readme);
        everyConstantStandsWithItsNumber(readme);
        everyTestIsNamed(readme);
        theExamplePrintsWhatItSays(exampleOf(readme));
        if (wrong != 0) {
            System.out.println(wrong + " places of README.md are not as due");
            System.exit(1);
        }
    }

    private static void same(String what, Object got, Object due) {
        if (!got.equals(due)) {
            wrong++;
            System.out.println(what + ": " + got + ", due: " + due);
        }
    }

    private static void everyCallStandsInTheTables(String readme) {
        for (Method method : HintPlacer.class.getDeclaredMethods()) {
            if (Modifier.isPublic(method.getModifiers())) {
                String name = method.getName();
                Matcher row = Pattern.compile("(?m)^\\| `" + name + "\\(([^)]*)\\)` \\|.+\\|.+\\|$").matcher(readme);
                same("a row for " + name, row.find(), true);
                same("the arguments of " + name, row.reset().find() ? many(row.group(1)) : -1, method.getParameterCount());
                same("a second row for " + name, row.find(), false);
            }
        }
    }

    private static int many(String arguments) {
        return arguments.isEmpty() ? 0 : arguments.split(", ").length;
    }

    private static void everyConstantStandsWithItsNumber(String readme) {
        String[] names = {"INVALID_ARGUMENT", "NOT_POSSIBLE", "LIMIT_REACHED", "NOT_FOUND"};
        int[] numbers = {HintPlacer.INVALID_ARGUMENT, HintPlacer.NOT_POSSIBLE, HintPlacer.LIMIT_REACHED, HintPlacer.NOT_FOUND};
        for (int i = 0; i < names.length; i++) {
            String row = "| `HintPlacer." + names[i] + "` | " + numbers[i] + " |";
            same("the row " + row, readme.contains(row), true);
        }
    }

    private static void everyTestIsNamed(String readme) throws Exception {
        try (Stream<Path> tests = Files.list(Path.of("src/test/java"))) {
            tests.forEach(test -> {
                String name = test.getFileName().toString().replace(".java", "");
                same("a line for " + name, readme.contains("\n- `" + name + "`: "), true);
            });
        }
    }

    private static String exampleOf(String readme) {
        Matcher block = Pattern.compile("(?s)```java\n(.*?)```").matcher(readme);
        boolean found = block.find();
        same("an example", found, true);
        return found ? block.group(1) : "public class Example { public static void main(String[] args) { } }";
    }

    private static void theExamplePrintsWhatItSays(String example) throws Exception {
        List<String> due = numbersSaid(example);
        same("the example says what it prints", due.isEmpty(), false);
        same("each line printed is said", due.size(), example.split("System\\.out\\.println", -1).length - 1);
        List<String> printed = run(example);
        for (int i = 0; i < Math.max(due.size(), printed.size()); i++) {
            String said = i < due.size() ? due.get(i) : "nothing";
            same("line " + (i + 1) + " of the example's", i < printed.size() ? printed.get(i) : "nothing", said);
        }
    }

    private static List<String> numbersSaid(String example) {
        List<String> numbers = new ArrayList<>();
        Matcher said = Pattern.compile("// prints (-?\\d+):").matcher(example);
        while (said.find()) {
            numbers.add(said.group(1));
        }
        return numbers;
    }

    private static List<String> run(String example) throws Exception {
        Path folder = Files.createTempDirectory("readme");
        PrintStream out = System.out;
        ByteArrayOutputStream printed = new ByteArrayOutputStream();
        try {
            Path source = Files.writeString(folder.resolve("Example.java"), example);
            JavaCompiler compiler = ToolProvider.getSystemJavaCompiler();
            String classes = System.getProperty("java.class.path");
            int code = compiler.run(null, out, out, "-encoding", "UTF-8", "-cp", classes, "-d", folder.toString(),
                source.toString());
            same("the example's compilation", code, 0);
            if (code == 0) {
                System.setOut(new PrintStream(printed, true, StandardCharsets.UTF_8));
                runMain(folder);
            }
        } finally {
            System.setOut(out);
            delete(folder);
        }
        return printed.toString(StandardCharsets.UTF_8).lines().toList();
    }

    private static void runMain(Path folder) throws Exception {
        URL[] places = {folder.toUri().toURL()};
        try (URLClassLoader loader = new URLClassLoader(places, HintPlacer.class.getClassLoader())) {
            Method main = loader.loadClass("Example").getMethod("main", String[].class);
            main.invoke(null, (Object) new String[0]);
        }
    }

    private static void delete(Path folder) throws Exception {
        try (Stream<Path> files = Files.walk(folder)) {
            for (Path file : files.sorted(Comparator.reverseOrder()).toList()) {
                Files.delete(file);
            }
        }
    }
}
