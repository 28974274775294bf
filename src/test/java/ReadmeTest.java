import java.io.IOException;
import java.lang.reflect.Method;
import java.net.URL;
import java.net.URLClassLoader;
import java.nio.file.Files;
import java.nio.file.Path;
import java.util.Set;
import java.util.TreeSet;
import java.util.regex.Matcher;
import java.util.regex.Pattern;
import java.util.stream.Stream;
import javax.tools.ToolProvider;

/** What README.md tells: the answers of its example, and the calls, codes and settings of its tables. */
final class ReadmeTest {
    private static final Pattern ANSWERED = Pattern.compile("(?:int \\w+ = )?(field\\..*\\));\\s+// (-?\\d+|[A-Z_]+): .*");

    public static void main(String[] args) throws Exception {
        String text = Files.readString(Path.of("README.md"));
        String example = part(text, "```java\nSunMirrors field", "```");
        Check.sentence("README: the answers of the example", () -> answers(example));
        Check.sentence("README: each call stands in the table", () -> calls(text));
        Check.sentence("README: the codes and the settings", () -> constants(text));
        Check.sentence("README: how characters are packed", () -> packing(part(text, "```java\nstatic long", "```")));
        Check.sentence("README: each test stands in the table", () -> tests(text));
        Check.end("ReadmeTest");
    }

    /** The text from a start (without its first line's fence) up to an end behind it. */
    private static String part(String text, String start, String end) {
        int from = text.indexOf(start) + "```java\n".length();
        return text.substring(from, text.indexOf(end, from));
    }

    /** Makes a program of the example that collects its answers, and runs it. */
    private static void answers(String example) {
        StringBuilder body = new StringBuilder();
        int asked = 0;
        for (String line : example.split("\n")) {
            Matcher matcher = ANSWERED.matcher(line);
            if (matcher.matches()) {
                String want = matcher.group(2);
                String code = Character.isUpperCase(want.charAt(0)) ? "SunMirrors." + want : want;
                body.append(line, 0, line.indexOf("field.")).append("told[").append(2 * asked).append("] = ")
                    .append(matcher.group(1)).append("; told[").append(2 * asked + 1).append("] = ").append(code)
                    .append(";\n");
                asked++;
            } else {
                Check.holds("a line without an answer makes the object: " + line, line.contains("new SunMirrors()"));
                body.append(line).append('\n');
            }
        }
        int[] told = run("int[] told = new int[" + 2 * asked + "];\n" + body + "return told;");
        for (int index = 0; index < asked; index++) {
            Check.due("answer " + index + " of the example", told[2 * index], told[2 * index + 1]);
        }
    }

    private static void packing(String method) {
        int[] told = run("return new int[] {(int) packed(\"v99\"), (int) (packed(\"+5.10a2;\") >>> 32)};\n}\n" + method
            + "static void end() {");
        Check.due("packed v99", told[0], Check.packed("v99"));
        Check.due("packed +5.1", told[1], Check.packed("+5.1"));
    }

    /** What a method of these lines answers, compiled as a reader of the page would compile it. */
    private static int[] run(String lines) {
        try {
            Path directory = Files.createTempDirectory("readme");
            try {
                Path file = directory.resolve("Example.java");
                Files.writeString(file, "public class Example {\npublic static int[] told() {\n" + lines + "\n}\n}\n");
                int failed = ToolProvider.getSystemJavaCompiler().run(null, null, null, "-cp",
                    System.getProperty("java.class.path"), "-d", directory.toString(), file.toString());
                Check.due("compiling the example", failed, 0);
                return failed == 0 ? load(directory) : new int[2 * lines.length()];
            } finally {
                remove(directory);
            }
        } catch (IOException | ReflectiveOperationException thrown) {
            throw new IllegalStateException(thrown);
        }
    }

    private static int[] load(Path directory) throws IOException, ReflectiveOperationException {
        try (URLClassLoader loader = new URLClassLoader(new URL[] {directory.toUri().toURL()})) {
            return (int[]) loader.loadClass("Example").getMethod("told").invoke(null);
        }
    }

    private static void remove(Path directory) throws IOException {
        try (Stream<Path> files = Files.list(directory)) {
            for (Path file : (Iterable<Path>) files::iterator) {
                Files.delete(file);
            }
        }
        Files.delete(directory);
    }

    private static void calls(String text) {
        Set<String> told = new TreeSet<>();
        Matcher matcher = Pattern.compile("(?m)^\\| `(\\w+)\\((.*?)\\)` \\| \\d+ \\|").matcher(text);
        while (matcher.find()) {
            int arguments = matcher.group(2).isEmpty() ? 0 : matcher.group(2).split(", ").length;
            told.add(matcher.group(1) + " " + arguments);
        }
        Set<String> face = new TreeSet<>();
        for (Method method : SunMirrors.class.getMethods()) {
            if (method.getDeclaringClass() == SunMirrors.class) {
                face.add(method.getName() + " " + method.getParameterCount());
            }
        }
        Check.holds("the table has the calls of the face: " + told, told.equals(face));
    }

    private static void constants(String text) {
        told(text, "`NO_SUCH` | -1", SunMirrors.NO_SUCH == -1);
        told(text, "`BAD_VALUE` | -2", SunMirrors.BAD_VALUE == -2);
        told(text, "`BAD_TEXT` | -3", SunMirrors.BAD_TEXT == -3);
        told(text, "`TOO_MANY` | -4", SunMirrors.TOO_MANY == -4);
        told(text, "`NOT_POSSIBLE` | -5", SunMirrors.NOT_POSSIBLE == -5);
        told(text, "`NONE` | -6", SunMirrors.NONE == -6);
        SunMirrors x = new SunMirrors();
        told(text, "`LIMIT` (0) | 1 to 9999 | 400 |", SunMirrors.LIMIT == 0 && x.count(8) == 400);
        told(text, "`WIND` (1) | 1 to 99 | 50 |", SunMirrors.WIND == 1 && x.count(9) == 50);
        told(text, "`DUST` (2) | 0 to 20 | 2 |", SunMirrors.DUST == 2 && x.count(10) == 2);
    }

    private static void told(String text, String row, boolean so) {
        Check.holds("README.md tells " + row + ", and it is so", so && text.contains("| " + row));
    }

    private static void tests(String text) {
        try (Stream<Path> files = Files.list(Path.of("src/test/java"))) {
            files.map(file -> file.getFileName().toString()).filter(name -> name.endsWith("Test.java"))
                .map(name -> name.replace(".java", ""))
                .forEach(name -> Check.holds("README.md tells of " + name, text.contains("\n| " + name + " | ")));
        } catch (IOException thrown) {
            throw new IllegalStateException(thrown);
        }
    }
}
