import java.io.IOException;
import java.lang.reflect.InvocationTargetException;
import java.net.URL;
import java.net.URLClassLoader;
import java.nio.file.Files;
import java.nio.file.Path;
import java.util.ArrayList;
import java.util.List;
import java.util.TreeSet;
import java.util.regex.Matcher;
import java.util.regex.Pattern;

/** What README.md says: each line of its examples must answer as its comment says, and its tables must be whole. */
public final class ReadmeTest {
    private static final Pattern CALL = Pattern.compile("(?:(\\w+) (\\w+) = )?(\\S.*?);\\s*//\\s*(.*)");
    private static final Pattern ANSWER = Pattern.compile("answers (\\S+?)(?:: .*)?");
    private static final Pattern EXCEPTION = Pattern.compile("throws (\\w+)");
    private static final Pattern OF_FACE = Pattern.compile("    public \\w+ (\\w+)\\((.*?)\\)(?: throws (.*))?;");
    private static final String NEW_CLOCK = "MinsterClock clock = new MinsterClock();";

    public static void main(String[] args) throws IOException, InterruptedException, ReflectiveOperationException {
        List<String> readme = Files.readAllLines(Path.of("README.md"));
        examples(readme);
        tables(readme, Files.readAllLines(Path.of("../shared/DOC.md")));
        testsAreNamed(readme);
        Check.end("ReadmeTest");
    }

    private static void examples(List<String> readme)
            throws IOException, InterruptedException, ReflectiveOperationException {
        StringBuilder program = new StringBuilder("public final class Examples {\n");
        program.append("public static void run(java.util.List<String[]> rows) {\n");
        int calls = 0;
        boolean isExample = false;
        for (String line : readme) {
            if (line.startsWith("```")) {
                program.append(isExample ? "}\n" : line.equals("```java") ? "{\n" : "");
                isExample = line.equals("```java");
            } else if (isExample) {
                program.append(asked(line)).append("\n");
                calls += line.startsWith(NEW_CLOCK) ? 0 : 1;
            }
        }
        List<String[]> rows = run(program.append("}\n}\n").toString());
        for (String[] row : rows) {
            Check.same("README.md: " + row[0], row[1], row[2]);
        }
        Check.same("every call of the examples says what it answers", rows.size(), calls);
        Check.same("there are examples", calls > 0, true);
    }

    /** Answers the line of an example, made so that it notes what was answered and what is due. */
    private static String asked(String line) {
        Matcher call = CALL.matcher(line);
        if (line.startsWith(NEW_CLOCK) || !call.matches()) {
            return line;
        }
        String told = '"' + call.group(3).replace("\"", "\\\"") + '"';
        Matcher answer = ANSWER.matcher(call.group(4));
        Matcher exception = EXCEPTION.matcher(call.group(4));
        if (answer.matches()) {
            String name = call.group(2);
            String before = name == null ? "" : call.group(1) + " " + name + " = " + call.group(3) + "; ";
            return before + note(told, "String.valueOf(" + (name == null ? call.group(3) : name) + ")", answer.group(1));
        }
        if (exception.matches()) {
            String due = "throws " + exception.group(1);
            return "try { " + call.group(3) + "; " + note(told, "\"no exception\"", due) + " } catch (RuntimeException"
                    + " thrown) { " + note(told, "\"throws \" + thrown.getClass().getSimpleName()", due) + " }";
        }
        return line;
    }

    private static String note(String told, String got, String due) {
        return "rows.add(new String[] {" + told + ", " + got + ", \"" + due + "\"});";
    }

    private static List<String[]> run(String program)
            throws IOException, InterruptedException, ReflectiveOperationException {
        List<String[]> rows = new ArrayList<>();
        Path folder = Files.createTempDirectory("readme");
        Path source = Files.writeString(folder.resolve("Examples.java"), program);
        Process compiler = new ProcessBuilder("javac", "-encoding", "UTF-8", "-d", folder.toString(), "-cp",
                System.getProperty("java.class.path"), source.toString()).inheritIO().start();
        Check.same("what javac answers for the examples", compiler.waitFor(), 0);
        if (compiler.exitValue() == 0) {
            URL[] places = {folder.toUri().toURL()};
            try (URLClassLoader loader = new URLClassLoader(places, ReadmeTest.class.getClassLoader())) {
                loader.loadClass("Examples").getMethod("run", List.class).invoke(null, rows);
            } catch (InvocationTargetException thrown) {
                Check.same("the examples behind the first " + rows.size(), Check.told(thrown.getCause()), "an answer");
            }
        }
        Files.deleteIfExists(folder.resolve("Examples.class"));
        Files.delete(source);
        Files.delete(folder);
        return rows;
    }

    /** Each call of the document's face has an example, and a row with its arguments and its exceptions. */
    private static void tables(List<String> readme, List<String> document) {
        int calls = 0;
        for (String line : document) {
            Matcher call = OF_FACE.matcher(line);
            if (call.matches()) {
                calls++;
                String name = call.group(1);
                String arguments = call.group(2).replaceAll("\\w+ (\\w+)", "$1");
                String exceptions = call.group(3) == null ? "" : "`" + call.group(3).replace(", ", "`, `") + "`";
                Check.same("README.md: " + name + " throws", exceptionsOf(readme, name + "(" + arguments + ")"),
                        exceptions);
                Check.same("README.md: " + name + " has an example", readme.stream()
                        .anyMatch(one -> CALL.matcher(one).matches() && one.contains("clock." + name + "(")), true);
            }
        }
        Check.same("calls of the face", calls, 38);
    }

    private static String exceptionsOf(List<String> readme, String call) {
        for (String line : readme) {
            if (line.startsWith("| `" + call + "` |")) {
                String[] cells = line.split("\\|");
                return cells.length == 4 ? cells[3].strip() : "no row of three cells: " + line;
            }
        }
        return "no row of " + call;
    }

    private static void testsAreNamed(List<String> readme) throws IOException {
        TreeSet<String> named = new TreeSet<>();
        for (String line : readme) {
            if (line.matches("\\| `\\w+Test` \\|.*")) {
                named.add(line.substring(3, line.indexOf("` |")));
            }
        }
        TreeSet<String> there = new TreeSet<>();
        try (var files = Files.list(Path.of("src/test/java"))) {
            files.map(file -> file.getFileName().toString()).filter(name -> name.endsWith("Test.java"))
                    .forEach(name -> there.add(name.replace(".java", "")));
        }
        Check.same("README.md names each test", named, there);
    }
}
