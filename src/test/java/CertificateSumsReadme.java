import java.io.IOException;
import java.nio.file.Files;
import java.nio.file.Path;
import java.util.ArrayList;
import java.util.List;
import java.util.Set;
import java.util.TreeSet;
import java.util.regex.Matcher;
import java.util.regex.Pattern;
import javax.tools.JavaCompiler;
import javax.tools.ToolProvider;

/**
 * The calls that README.md shows, with the answers that it shows. Each block of its code becomes a method
 * of a class that is compiled beside this one, so that README.md stays the one place where they stand.
 */
public final class CertificateSumsReadme extends Checks {
    private static final String MADE = "ReadmeCalls";
    private static final Pattern SHOWN = Pattern.compile("(?:int (\\w+) = )?(.*);\\s*// ([^:]+)(?::.*)?");
    private static final Pattern CALLED = Pattern.compile("x\\.(\\w+)\\(");
    private static final int CALLS_OF_THE_FACE = 17;

    public static void main(String[] args) throws Exception {
        List<String> lines = Files.readAllLines(Path.of("README.md"));
        List<List<String>> blocks = blocks(lines);
        due("README.md has code", () -> blocks.isEmpty(), false);
        due("README.md shows every call", () -> called(blocks), CALLS_OF_THE_FACE);
        if (compiled(source(blocks))) {
            Class.forName(MADE).getDeclaredMethod("run").invoke(null);
        } else {
            due("README.md's code compiles", () -> false, true);
        }
        finish();
    }

    private static List<List<String>> blocks(List<String> lines) {
        List<List<String>> blocks = new ArrayList<>();
        boolean inside = false;
        for (String line : lines) {
            if (line.equals("```java")) {
                inside = true;
                blocks.add(new ArrayList<>());
            } else if (line.equals("```")) {
                inside = false;
            } else if (inside) {
                blocks.get(blocks.size() - 1).add(line);
            }
        }
        return blocks;
    }

    private static int called(List<List<String>> blocks) {
        Set<String> names = new TreeSet<>();
        for (List<String> block : blocks) {
            for (String line : block) {
                Matcher call = CALLED.matcher(line);
                while (call.find()) {
                    names.add(call.group(1));
                }
            }
        }
        return names.size();
    }

    private static String source(List<List<String>> blocks) {
        StringBuilder source = new StringBuilder("final class " + MADE + " extends Checks {\n");
        StringBuilder run = new StringBuilder("static void run() {\n");
        for (int k = 0; k < blocks.size(); k++) {
            source.append("private static void block").append(k).append("() {\n");
            for (String line : blocks.get(k)) {
                source.append(statement(line)).append('\n');
            }
            source.append("}\n");
            run.append("block").append(k).append("();\n");
        }
        return source.append(run).append("}\n}\n").toString();
    }

    /** Every line shows an answer, and is held against it, but for the one that makes the object. */
    private static String statement(String line) {
        Matcher shown = SHOWN.matcher(line);
        if (!shown.matches()) {
            due("README.md: no answer behind", () -> line, "CertificateSums x = new CertificateSums();");
            return line;
        }
        String answer = shown.group(3).trim().replace("throws ", "throws.");
        if (shown.group(1) != null) {
            return "int " + shown.group(1) + " = " + shown.group(2) + ";\n"
                    + due(shown.group(2), shown.group(1), answer);
        }
        return due(shown.group(2), shown.group(2), answer);
    }

    private static String due(String what, String expression, String answer) {
        return "due(\"README.md: " + what + "\", () -> " + expression + ", \"" + answer + "\");";
    }

    /** Beside the classes of this test, so that it may use what they share. */
    private static boolean compiled(String source) throws IOException {
        Path classes = Path.of(System.getProperty("java.class.path"));
        Path file = Files.createTempDirectory(classes, "readme").resolve(MADE + ".java");
        Files.writeString(file, source);
        JavaCompiler javac = ToolProvider.getSystemJavaCompiler();
        return javac.run(null, null, null, "-cp", classes.toString(), "-d", classes.toString(),
                file.toString()) == 0;
    }
}
