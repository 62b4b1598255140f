import java.io.File;
import java.io.IOException;
import java.net.URL;
import java.net.URLClassLoader;
import java.nio.file.Files;
import java.nio.file.Path;
import java.util.ArrayList;
import java.util.List;
import java.util.regex.Matcher;
import java.util.regex.Pattern;
import javax.tools.ToolProvider;

/** The examples of README.md answer what it says, and it names every call and every constant. */
public final class ReadmeTest {
    /** A call, and behind it the answer that is due: "int a = x.make(1, 0, 0, 1);  // 0: its number". */
    private static final Pattern ASKED = Pattern.compile("(?:int \\w+ = )?(x\\.\\w+\\(.*\\));\\s*// (-?[0-9.]+): .*");
    private static final Pattern CONSTANT = Pattern.compile("public static final int (\\w+) = (-\\d);");
    private static final Pattern METHOD = Pattern.compile("public (?:int|double) (\\w+)\\((.*)\\);");

    private ReadmeTest() {
    }

    public static void main(String[] args) throws IOException, ReflectiveOperationException {
        if (args.length < 3) {
            Due.tell("the paths of the program, the document and README.md are not told");
        } else {
            List<String> lines = Files.readAllLines(Path.of(args[2]));
            examples(lines);
            names(String.join("\n", lines), Face.of(args[1]));
        }
        Due.end("ReadmeTest");
    }

    // ---- examples

    private static void examples(List<String> lines) throws IOException, ReflectiveOperationException {
        List<String> calls = new ArrayList<>();
        List<Double> due = new ArrayList<>();
        String program = program(lines, calls, due);
        Due.due("there are examples", calls.isEmpty() ? 0 : 1, 1);
        double[] got = run(program, calls.size());
        for (int call = 0; call < calls.size(); call++) {
            Due.due("in README.md " + calls.get(call), got[call], due.get(call));
        }
    }

    /** Each example becomes a block of its own; a call whose answer is told puts it into the next field of a row. */
    private static String program(List<String> lines, List<String> calls, List<Double> due) {
        StringBuilder program = new StringBuilder("public final class Examples {\npublic static void run(double[] got) {\n");
        boolean inside = false;
        for (String line : lines) {
            if (line.startsWith("```")) {
                program.append(inside ? "}\n" : line.equals("```java") ? "{\n" : "");
                inside = line.equals("```java");
            } else if (inside) {
                program.append(statement(line, calls, due)).append('\n');
            }
        }
        return program.append("}\n}\n").toString();
    }

    private static String statement(String line, List<String> calls, List<Double> due) {
        Matcher asked = ASKED.matcher(line);
        if (!asked.matches()) {
            return line;
        }
        calls.add(asked.group(1));
        due.add(Double.valueOf(asked.group(2)));
        String field = "got[" + (calls.size() - 1) + "] = ";
        String name = line.startsWith("int ") ? line.split(" ")[1] : "";
        return name.isEmpty() ? field + asked.group(1) + ";" : line + "\n" + field + name + ";";
    }

    private static double[] run(String program, int answers) throws IOException, ReflectiveOperationException {
        Path directory = Files.createTempDirectory("examples");
        Path source = directory.resolve("Examples.java");
        Path compiled = directory.resolve("Examples.class");
        double[] got = new double[answers];
        try {
            Files.writeString(source, program);
            int failed = ToolProvider.getSystemJavaCompiler().run(null, null, null, "-proc:none",
                "-cp", System.getProperty("java.class.path"), "-d", directory.toString(), source.toString());
            Due.due("compiling the examples of README.md", failed, 0);
            if (failed == 0) {
                call(directory.toFile(), got);
            }
        } finally {
            Files.deleteIfExists(compiled);
            Files.deleteIfExists(source);
            Files.deleteIfExists(directory);
        }
        return got;
    }

    private static void call(File directory, double[] got) throws IOException, ReflectiveOperationException {
        try (URLClassLoader loader = new URLClassLoader(new URL[] {directory.toURI().toURL()})) {
            loader.loadClass("Examples").getMethod("run", double[].class).invoke(null, (Object) got);
        }
    }

    // ---- names

    private static void names(String readme, List<String> face) {
        for (String member : face) {
            Matcher constant = CONSTANT.matcher(member);
            if (constant.matches()) {
                named(readme, "| `" + constant.group(1) + "` | " + constant.group(2) + " |");
            }
            Matcher method = METHOD.matcher(member);
            if (method.matches()) {
                named(readme, "| `" + method.group(1) + "(" + method.group(2).replace("int ", "") + ")` | ");
            }
        }
        named(readme, "bash .ci/run");
    }

    private static void named(String readme, String text) {
        Due.due("README.md tells " + text, readme.contains(text) ? 1 : 0, 1);
    }
}
