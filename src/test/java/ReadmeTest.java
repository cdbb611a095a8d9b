import java.io.IOException;
import java.io.PrintWriter;
import java.lang.reflect.Method;
import java.lang.reflect.Modifier;
import java.net.URL;
import java.net.URLClassLoader;
import java.nio.file.Files;
import java.nio.file.Path;
import java.util.ArrayList;
import java.util.List;
import java.util.regex.Matcher;
import java.util.regex.Pattern;
import java.util.spi.ToolProvider;

/** The example of README.md, as it stands there: it compiles, uses every call, and each answers what stands behind it. */
public final class ReadmeTest {
    private static final Due DUE = new Due();
    private static final Pattern TOLD = Pattern.compile("(int (\\w+) = )?(x\\.\\w+\\(.*\\));\\s+// (\\S+)");

    public static void main(String[] args) throws Exception {
        List<String> example = example();
        for (Method m : ExactFolds.class.getDeclaredMethods()) {
            if (Modifier.isPublic(m.getModifiers())) {
                boolean used = example.stream().anyMatch(line -> line.contains("x." + m.getName() + "("));
                DUE.answer("the example uses " + m.getName(), used, true);
            }
        }
        run(example);
        DUE.end();
    }

    /** What the example's rows answered, held against what stands behind them; called by the class made of it. */
    public static void row(String row, long got, long want) {
        DUE.answer(row, got, want);
    }

    public static void row(String row, boolean got, boolean want) {
        DUE.answer(row, got, want);
    }

    private static List<String> example() throws IOException {
        List<String> found = new ArrayList<>();
        boolean inside = false;
        for (String line : Files.readAllLines(Path.of("README.md"))) {
            boolean fence = line.startsWith("```");
            if (inside && !fence) {
                found.add(line);
            }
            inside = fence ? line.equals("```java") : inside;
        }
        return found;
    }

    private static void run(List<String> example) throws Exception {
        Path room = Files.createTempDirectory("readme");
        Path file = room.resolve("ReadmeExample.java");
        Files.writeString(file, asClass(example));
        PrintWriter out = new PrintWriter(System.out, true);
        int fault = ToolProvider.findFirst("javac").orElseThrow().run(out, out,
                "-cp", System.getProperty("java.class.path"), "-d", room.toString(), file.toString());
        DUE.answer("javac of the example", fault, 0);
        if (fault == 0) {
            try (URLClassLoader loader = new URLClassLoader(new URL[] {room.toUri().toURL()})) {
                loader.loadClass("ReadmeExample").getMethod("main", String[].class).invoke(null, (Object) new String[0]);
            }
        }
        for (String name : new String[] {"ReadmeExample.class", "ReadmeExample.java", ""}) {
            Files.deleteIfExists(room.resolve(name));
        }
    }

    private static String asClass(List<String> example) {
        StringBuilder text = new StringBuilder("public final class ReadmeExample {\n");
        text.append("public static void main(String[] args) {\n");
        for (String line : example) {
            text.append(withAnswer(line)).append('\n');
        }
        return text.append("}\n}\n").toString();
    }

    private static String withAnswer(String line) {
        Matcher told = TOLD.matcher(line);
        if (!told.matches()) {
            boolean plain = line.isEmpty() || line.startsWith("// ") || line.equals("ExactFolds x = new ExactFolds();");
            DUE.answer("a row of the example without an answer: " + line, plain, true);
            return line;
        }
        String row = line.replaceAll("\\s+", " ").replace("\"", "\\\"");
        String got = told.group(1) == null ? told.group(3) : told.group(2);
        String made = told.group(1) == null ? "" : told.group(1) + told.group(3) + "; ";
        return made + "ReadmeTest.row(\"" + row + "\", " + got + ", " + told.group(4) + ");";
    }
}
