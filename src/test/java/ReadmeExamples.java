import java.io.IOException;
import java.lang.reflect.Method;
import java.lang.reflect.Modifier;
import java.nio.file.Files;
import java.nio.file.Path;
import java.util.ArrayList;
import java.util.List;
import java.util.regex.Matcher;
import java.util.regex.Pattern;

/** Makes a program of the examples of README.md: each answer behind "->" and each exception behind "throws" is due there. */
final class ReadmeExamples {
    private static final Pattern ANSWERED = Pattern.compile("(?:(int|long) (\\w+) = )?(x\\..*\\));\\s*// -> ([-\\w]+).*");
    private static final Pattern REFUSED = Pattern.compile("(x\\..*\\));\\s*// throws (\\w+).*");

    private ReadmeExamples() {
    }

    public static void main(String[] args) throws IOException {
        String name = "ReadmeProgram";
        List<String> examples = examplesOf(Files.readAllLines(Path.of(args[0])));
        if (!showAllCalls(examples)) {
            System.exit(1);
        }
        List<String> program = new ArrayList<>();
        program.add("final class " + name + " {");
        program.add("    public static void main(String[] args) {");
        for (String line : examples) {
            program.add("        " + checked(line));
        }
        program.add("        if (!Check.end()) {");
        program.add("            System.exit(1);");
        program.add("        }");
        program.add("    }");
        program.add("}");
        Files.write(Path.of(args[1], name + ".java"), program);
    }

    private static List<String> examplesOf(List<String> page) {
        List<String> examples = new ArrayList<>();
        boolean inside = false;
        for (String line : page) {
            if (line.startsWith("```")) {
                inside = line.equals("```java");
            } else if (inside) {
                examples.add(line);
            }
        }
        return examples;
    }

    private static boolean showAllCalls(List<String> examples) {
        String all = String.join("\n", examples);
        boolean shown = true;
        for (Method method : Taxmaze.class.getDeclaredMethods()) {
            if (Modifier.isPublic(method.getModifiers()) && !all.contains("x." + method.getName() + "(")) {
                System.out.println("README.md does not show " + method.getName());
                shown = false;
            }
        }
        return shown;
    }

    private static String checked(String line) {
        Matcher answered = ANSWERED.matcher(line);
        if (answered.matches()) {
            String call = answered.group(3);
            String declared = answered.group(1) == null ? "" : answered.group(1) + " " + answered.group(2) + " = " + call + "; ";
            String got = declared.isEmpty() ? call : answered.group(2);
            return declared + "Check.same(\"README: " + call + "\", " + got + ", " + answered.group(4) + ");";
        }
        Matcher refused = REFUSED.matcher(line);
        if (refused.matches()) {
            String call = refused.group(1);
            return "Check.thrown(\"README: " + call + "\", () -> " + call + ", \"" + refused.group(2) + "\");";
        }
        // A due answer that is not understood would go unchecked.
        boolean lost = line.contains("->") || line.contains("throws");
        return lost ? "Check.same(\"README: a line that is not understood\", 0, 1);  // " + line : line;
    }
}
