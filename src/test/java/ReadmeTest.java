import java.io.IOException;
import java.lang.reflect.Method;
import java.lang.reflect.Modifier;
import java.nio.file.Files;
import java.nio.file.Path;
import java.util.ArrayList;
import java.util.List;
import java.util.regex.Matcher;
import java.util.regex.Pattern;
import java.util.stream.Stream;
import javax.tools.JavaCompiler;
import javax.tools.ToolProvider;

/**
 * README.md's examples as the program that they are. Each row of them is a call of 'house', at times kept in a
 * variable, and behind it '// answer' or '// answer: why'; only a call without an answer (clear) and the making of
 * the object stand alone.
 */
public final class ReadmeTest extends Check {
    private static final Path README = Path.of("README.md");
    private static final Pattern BLOCK = Pattern.compile("^```java\n(.*?)^```$", Pattern.MULTILINE | Pattern.DOTALL);
    private static final Pattern MAKING = Pattern.compile("TokenHouse house = new TokenHouse\\(\\);");
    private static final Pattern SILENT = Pattern.compile("house\\.clear\\((true|false)\\);");
    private static final Pattern ASKING = Pattern.compile(
            "(?:(int|long|boolean) (\\w+) = )?(house\\.\\w+\\([^()]*\\)); +// (throws \\w+|[-\\w]+)(?:: .*)?");

    private static List<String> blocks() throws IOException {
        List<String> found = new ArrayList<>();
        Matcher m = BLOCK.matcher(Files.readString(README));
        while (m.find()) {
            found.add(m.group(1));
        }
        return found;
    }

    /** The program's text for one row; a row of no known form is a fault of README.md. */
    private static String statement(String row) {
        if (row.isBlank() || MAKING.matcher(row).matches() || SILENT.matcher(row).matches()) {
            return row;
        }
        Matcher m = ASKING.matcher(row);
        if (!m.matches()) {
            due("README.md's row '" + row + "' is a call with its answer", false, true);
            return "";
        }
        String call = m.group(3);
        String answer = m.group(4);
        if (answer.startsWith("throws ")) {
            String name = answer.substring("throws ".length());
            return "Check.due(\"README.md: " + call + "\", Check.thrown(() -> " + call + "), \"" + name + "\");";
        }
        String kept = m.group(1) == null ? "" : m.group(1) + " " + m.group(2) + " = " + call + "; ";
        String told = m.group(1) == null ? call : m.group(2);
        return kept + "Check.due(\"README.md: " + call + "\", " + told + ", \"" + answer + "\");";
    }

    private static String program(List<String> blocks) {
        StringBuilder s = new StringBuilder("public final class ReadmeProgram {\n");
        for (int i = 0; i < blocks.size(); i++) {
            s.append("static void block").append(i).append("() {\n");
            for (String row : blocks.get(i).split("\n")) {
                s.append(statement(row)).append('\n');
            }
            s.append("}\n");
        }
        s.append("public static void main(String[] args) {\n");
        for (int i = 0; i < blocks.size(); i++) {
            s.append("block").append(i).append("();\n");
        }
        return s.append("}\n}\n").toString();
    }

    /** Into the place of the tests' own classes, so that the program uses the same Check as this test. */
    static void examplesAnswerWhatTheyName() throws Exception {
        String place = System.getProperty("java.class.path");
        Path source = Path.of(place, "ReadmeProgram.java");
        Files.writeString(source, program(blocks()));
        JavaCompiler javac = ToolProvider.getSystemJavaCompiler();
        int failed = javac.run(null, null, null, "-cp", place, "-d", place, source.toString());
        due("README.md's examples compile", failed, 0);
        if (failed == 0) {
            Method main = Class.forName("ReadmeProgram").getMethod("main", String[].class);
            main.invoke(null, (Object) new String[0]);
        }
    }

    static void everyCallIsToldAndShown() throws IOException {
        String all = Files.readString(README);
        String shown = String.join("", blocks());
        due("an example makes an object", shown.contains("new TokenHouse()"), true);
        for (Method m : TokenHouse.class.getDeclaredMethods()) {
            String name = m.getName();
            if (Modifier.isPublic(m.getModifiers())) {
                due("README.md tells of " + name, all.contains("| `" + name + "("), true);
                due("README.md's examples call " + name, shown.contains("house." + name + "("), true);
            }
        }
    }

    static void everyExceptionOfTheFaceIsShown() throws IOException {
        String shown = String.join("", blocks());
        for (String name : List.of(ARGUMENT, STATE, ELEMENT)) {
            due("README.md's examples show " + name, shown.contains("// throws " + name), true);
        }
    }

    static void everyTestIsTold() throws IOException {
        String all = Files.readString(README);
        try (Stream<Path> files = Files.list(Path.of("src/test/java"))) {
            for (Path file : (Iterable<Path>) files::iterator) {
                String name = file.getFileName().toString().replace(".java", "");
                due("README.md tells of " + name, all.contains("`" + name + "`"), true);
            }
        }
    }

    public static void main(String[] args) {
        runAll(ReadmeTest.class);
    }
}
