import java.io.File;
import java.io.IOException;
import java.lang.reflect.Method;
import java.lang.reflect.Modifier;
import java.net.URL;
import java.net.URLClassLoader;
import java.nio.charset.StandardCharsets;
import java.nio.file.Files;
import java.nio.file.Path;
import java.util.ArrayList;
import java.util.List;
import java.util.Set;
import java.util.TreeSet;
import java.util.regex.Matcher;
import java.util.regex.Pattern;
import javax.tools.ToolProvider;

/** README.md: its examples compile and answer what stands beside them, and its tables hold for the class. */
public final class ReadmeTest {
    private static final Pattern CALL =
        Pattern.compile("((int|boolean) (\\w+) = )?([^;]+); +// (-?[0-9]+|true|false)(: .*| \\w.*)?");

    public static void main(String[] args) throws Exception {
        List<String> lines = Files.readAllLines(Path.of("README.md"), StandardCharsets.US_ASCII);
        examples(lines);
        errors(rows(lines, 4));
        settings(rows(lines, 6));
        methods(rows(lines, 3));
        tests(lines);
        Check.end("ReadmeTest");
    }

    /** Each block of Java becomes a method, in which each line with an answer is checked. */
    private static void examples(List<String> lines) throws Exception {
        StringBuilder source = new StringBuilder("public final class ReadmeExamples {\n");
        int blocks = 0;
        boolean isInside = false;
        for (int i = 0; i < lines.size(); i++) {
            String line = lines.get(i);
            if (line.equals("```java")) {
                isInside = true;
                source.append("public static void example").append(blocks++).append("() {\n");
            } else if (line.equals("```")) {
                isInside = false;
                source.append("}\n");
            } else if (isInside) {
                source.append(checked(line, i + 1)).append('\n');
            }
        }
        Check.due("examples", blocks, 3);
        runExamples(source.append("}\n").toString(), blocks);
    }

    private static String checked(String line, int number) {
        Matcher call = CALL.matcher(line);
        if (!call.matches()) {
            Check.dueTrue("README.md line " + number + " tells an answer", line.equals("PrintRegister x = new PrintRegister();"));
            return line;
        }
        String got = call.group(1) == null ? call.group(4) : call.group(3);
        String answer = call.group(5);
        String check = answer.matches("true|false") ? "Check.dueTrue(WHAT, (GOT) == ANSWER);" : "Check.due(WHAT, GOT, ANSWER);";
        check = check.replace("WHAT", "\"README.md line " + number + "\"").replace("GOT", got).replace("ANSWER", answer);
        return call.group(1) == null ? check : line.substring(0, line.indexOf(';') + 1) + " " + check;
    }

    private static void runExamples(String source, int blocks) throws Exception {
        Path place = Files.createTempDirectory("readme");
        Path file = place.resolve("ReadmeExamples.java");
        try {
            Files.writeString(file, source);
            String path = System.getProperty("java.class.path");
            int failed = ToolProvider.getSystemJavaCompiler()
                .run(null, null, null, "-cp", path, "-d", place.toString(), file.toString());
            Check.due("README.md's examples compile", failed, 0);
            if (failed != 0) return;
            try (URLClassLoader loader = new URLClassLoader(new URL[] {place.toUri().toURL()})) {
                for (int i = 0; i < blocks; i++) loader.loadClass("ReadmeExamples").getMethod("example" + i).invoke(null);
            }
        } finally {
            remove(place);
        }
    }

    private static void remove(Path place) throws IOException {
        for (File file : place.toFile().listFiles()) Files.delete(file.toPath());
        Files.delete(place);
    }

    /** The rows of so many cells; the first cell is code, which leaves out heads and lines. */
    private static List<String[]> rows(List<String> lines, int cells) {
        List<String[]> rows = new ArrayList<>();
        for (String line : lines) {
            if (!line.startsWith("| `")) continue;
            String[] row = line.substring(1, line.lastIndexOf('|')).split("\\|");
            if (row.length != cells) continue;
            for (int i = 0; i < cells; i++) row[i] = row[i].strip();
            row[0] = row[0].replace("`", "");
            rows.add(row);
        }
        return rows;
    }

    private static int constant(String name) throws ReflectiveOperationException {
        return PrintRegister.class.getField(name).getInt(null);
    }

    private static void errors(List<String[]> rows) throws Exception {
        Check.due("rows of errors", rows.size(), 6);
        for (int i = 0; i < rows.size(); i++) {
            String[] row = rows.get(i);
            Check.due(row[0] + " in its order", constant(row[0]), -1 - i);
            Check.due(row[0] + " in README.md", Integer.parseInt(row[1]), constant(row[0]));
            Check.due(row[0] + " as an answer in README.md", Integer.parseInt(row[2]), constant(row[0]) - PrintRegister.SHIFT);
        }
    }

    private static void settings(List<String[]> rows) throws Exception {
        Check.due("rows of settings", rows.size(), 11);
        for (int i = 0; i < rows.size(); i++) {
            String[] row = rows.get(i);
            int setting = constant(row[0]);
            int least = Integer.parseInt(row[2]);
            int greatest = Integer.parseInt(row[3]);
            PrintRegister x = new PrintRegister();
            Check.due(row[0] + " in its order", setting, i);
            Check.due(row[0] + " in README.md", Integer.parseInt(row[1]), setting);
            Check.due(row[0] + " at first", Integer.parseInt(row[4]), x.get(1, setting));
            Check.due(row[0] + " less than its least", x.set(1, setting, least - 1), Check.BAD_VALUE);
            Check.due(row[0] + " greater than its greatest", x.set(1, setting, greatest + 1), Check.BAD_VALUE);
            Check.due(row[0] + " at its least", x.set(1, setting, least), Integer.parseInt(row[4]));
            Check.due(row[0] + " at its greatest", x.set(1, setting, greatest), least);
        }
    }

    private static void methods(List<String[]> rows) {
        Set<String> told = new TreeSet<>();
        for (String[] row : rows) {
            String name = row[0].substring(0, row[0].indexOf('('));
            String arguments = row[0].substring(row[0].indexOf('(') + 1, row[0].indexOf(')'));
            told.add(name + " " + (arguments.isEmpty() ? 0 : arguments.split(",").length));
        }
        Set<String> due = new TreeSet<>();
        for (Method m : PrintRegister.class.getDeclaredMethods()) {
            if (Modifier.isPublic(m.getModifiers())) due.add(m.getName() + " " + m.getParameterCount());
        }
        Check.due("rows of methods", rows.size(), due.size());
        Check.dueTrue("methods " + told + " as " + due, told.equals(due));
    }

    /** README.md tells of each test, and of none that is not there. */
    private static void tests(List<String> lines) {
        Set<String> told = new TreeSet<>();
        for (String line : lines) {
            if (line.matches("- `\\w+Test`: .*")) told.add(line.substring(3, line.indexOf("`:")));
        }
        Set<String> due = new TreeSet<>();
        for (String name : new File("src/test/java").list()) {
            if (name.endsWith("Test.java")) due.add(name.substring(0, name.indexOf('.')));
        }
        Check.dueTrue("tests " + told + " as " + due, told.equals(due));
    }
}
