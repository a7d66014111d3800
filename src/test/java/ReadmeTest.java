import java.io.IOException;
import java.lang.reflect.Field;
import java.lang.reflect.Method;
import java.lang.reflect.Modifier;
import java.nio.file.DirectoryStream;
import java.nio.file.Files;
import java.nio.file.Path;
import java.util.ArrayList;
import java.util.List;
import java.util.regex.Matcher;
import java.util.regex.Pattern;

/** What README.md tells: its commands work, its example answers what it says, and its lists leave nothing out. */
public final class ReadmeTest {
    private static final Due D = new Due("ReadmeTest");
    private static final Pattern LINE = Pattern.compile("x\\.(\\w+)\\((.*?)\\);\\s*// (-?\\d+|[A-Z_]+)(:.*)?");
    /** Not run here, because it is what runs this test. */
    private static final String ALL_TESTS = ".ci/run";

    public static void main(String[] args) throws Exception {
        String page = Files.readString(Path.of("README.md"));
        commands(page);
        example(page);
        calls(page);
        constants(page);
        tests(page);
        D.end();
    }

    /** The lines of all blocks of one kind. */
    private static List<String> linesIn(String page, String kind) {
        List<String> lines = new ArrayList<>();
        Matcher block = Pattern.compile("(?s)```" + kind + "\n(.*?)```").matcher(page);
        while (block.find()) {
            block.group(1).lines().forEach(lines::add);
        }
        return lines;
    }

    /** In their order, because the later ones need what the earlier ones made. */
    private static void commands(String page) throws IOException, InterruptedException {
        List<String> commands = linesIn(page, "sh");
        D.holds("a command compiles the class", commands.stream().anyMatch(c -> c.contains("GlassBowls.java")));
        D.holds("a command runs all tests", commands.contains(ALL_TESTS));
        D.holds("it can be run", Files.isExecutable(Path.of(ALL_TESTS)));
        for (String command : commands) {
            if (!command.equals(ALL_TESTS)) {
                D.due(command, exitCodeOf(command), 0);
            }
        }
    }

    private static int exitCodeOf(String command) throws IOException, InterruptedException {
        Process process = new ProcessBuilder("bash", "-c", command).redirectErrorStream(true)
            .redirectOutput(ProcessBuilder.Redirect.DISCARD).start();
        return process.waitFor();
    }

    private static void example(String page) throws ReflectiveOperationException {
        List<String> lines = linesIn(page, "java");
        D.holds("the example makes an object", lines.remove("GlassBowls x = new GlassBowls();"));
        D.holds("the example has calls", !lines.isEmpty());
        GlassBowls x = new GlassBowls();
        for (String line : lines) {
            Matcher parts = LINE.matcher(line);
            boolean isCall = parts.matches();
            D.holds("a call with its answer: " + line, isCall);
            if (isCall) {
                D.due(line, answer(x, parts.group(1), parts.group(2)), numberOf(parts.group(3)));
            }
        }
    }

    private static int answer(GlassBowls x, String call, String list) throws ReflectiveOperationException {
        String[] texts = list.isEmpty() ? new String[0] : list.split(", ");
        Class<?>[] types = new Class<?>[texts.length];
        Object[] values = new Object[texts.length];
        for (int i = 0; i < texts.length; i++) {
            types[i] = int.class;
            values[i] = texts[i].startsWith("'") ? (int) texts[i].charAt(1) : Integer.parseInt(texts[i]);
        }
        return (int) GlassBowls.class.getMethod(call, types).invoke(x, values);
    }

    private static int numberOf(String told) throws ReflectiveOperationException {
        boolean isName = Character.isUpperCase(told.charAt(0));
        return isName ? GlassBowls.class.getField(told).getInt(null) : Integer.parseInt(told);
    }

    private static void calls(String page) {
        for (Method m : GlassBowls.class.getDeclaredMethods()) {
            if (Modifier.isPublic(m.getModifiers())) {
                D.holds(m.getName() + " is listed", page.contains("`" + m.getName() + "`"));
            }
        }
    }

    private static void constants(String page) throws ReflectiveOperationException {
        for (Field f : GlassBowls.class.getFields()) {
            String row = "| `" + f.getName() + "` | " + f.getInt(null) + " |";
            D.holds(row + " is listed", page.contains(row));
        }
    }

    /** Each test has a row, and each row is of a test. */
    private static void tests(String page) throws IOException {
        int files = 0;
        try (DirectoryStream<Path> found = Files.newDirectoryStream(Path.of("src/test/java"), "*Test.java")) {
            for (Path file : found) {
                String name = file.getFileName().toString().replace(".java", "");
                D.holds(name + " is listed", page.contains("| `" + name + "` |"));
                files++;
            }
        }
        int rows = 0;
        Matcher row = Pattern.compile("\\| `\\w+Test` \\|").matcher(page);
        while (row.find()) {
            rows++;
        }
        D.due("rows of tests", rows, files);
    }
}
