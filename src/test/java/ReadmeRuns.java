import java.io.IOException;
import java.lang.reflect.Method;
import java.lang.reflect.Modifier;
import java.nio.file.Files;
import java.nio.file.Path;
import java.util.ArrayList;
import java.util.List;
import java.util.regex.Matcher;
import java.util.regex.Pattern;

/** Makes the program ReadmeExamples of what README.md shows as calls and answers, so that .ci/run can run it. */
public final class ReadmeRuns {
    private static final Pattern TOLD =
        Pattern.compile("(\\s*)((?:int|boolean) (\\w+) = )?(\\w[^;]*);\\s*// (answers|throws) (-?\\w+)(?::.*)?");

    private final List<String> program = new ArrayList<>();
    private int examples;
    private boolean inside;

    private ReadmeRuns() {
    }

    /** The arguments: README.md, and the folder into which the program goes. */
    public static void main(String[] arguments) throws IOException {
        ReadmeRuns runs = new ReadmeRuns();
        runs.begin();
        List<String> lines = Files.readAllLines(Path.of(arguments[0]));
        for (String line : lines) {
            runs.take(line);
        }
        runs.end();
        checkThatAllCallsAreShown(runs.program);
        Path folder = Path.of(arguments[1]);
        Files.createDirectories(folder);
        Files.write(folder.resolve("ReadmeExamples.java"), runs.program);
    }

    private void begin() {
        program.add("public final class ReadmeExamples {");
        program.add("    private static int right = 0, wrong = 0;");
        program.add("    private static void told(String line, Object due, Object got) {");
        program.add("        boolean good = String.valueOf(due).equals(String.valueOf(got));");
        program.add("        right += good ? 1 : 0;");
        program.add("        wrong += good ? 0 : 1;");
        program.add("        if (!good) { System.out.println(\"README.md: \" + line + \", got \" + got); }");
        program.add("    }");
    }

    private void take(String line) {
        if (line.startsWith("```")) {
            if (inside) {
                program.add("    }");
            } else if (line.equals("```java")) {
                examples++;
                program.add("    private static void example" + examples + "() {");
            }
            inside = !inside && line.equals("```java");
            return;
        }
        if (inside) {
            addLine(line);
        }
    }

    private void addLine(String line) {
        Matcher told = TOLD.matcher(line);
        if (!told.matches()) {
            // A call with a remark tells something: what is not understood must not go by unseen.
            if (line.contains("crawl.") && line.contains("//")) {
                throw new IllegalStateException("README.md tells what is not understood: " + line);
            }
            program.add(line);
            return;
        }
        String quoted = "\"" + line.strip().replaceAll("\\s+", " ").replace("\"", "\\\"") + "\"";
        String call = told.group(4);
        if (told.group(5).equals("throws")) {
            program.add("{ String thrown = \"nothing\"; try { " + call + "; }");
            program.add("catch (RuntimeException got) { thrown = got.getClass().getSimpleName(); }");
            program.add("told(" + quoted + ", \"" + told.group(6) + "\", thrown); }");
        } else if (told.group(2) != null) {
            program.add(told.group(2) + call + ";");
            program.add("told(" + quoted + ", \"" + told.group(6) + "\", " + told.group(3) + ");");
        } else {
            program.add("told(" + quoted + ", \"" + told.group(6) + "\", " + call + ");");
        }
    }

    private void end() {
        program.add("    public static void main(String[] arguments) {");
        for (int example = 1; example <= examples; example++) {
            program.add("        example" + example + "();");
        }
        program.add("        System.out.println(\"README.md: \" + right + \" right, \" + wrong + \" wrong\");");
        program.add("        System.exit(wrong == 0 && right > 0 ? 0 : 1);");
        program.add("    }");
        program.add("}");
    }

    /** A call that answers must be in a line whose answer is told; setPaces answers nothing, and must be there. */
    private static void checkThatAllCallsAreShown(List<String> program) {
        for (Method method : Politecrawl.class.getDeclaredMethods()) {
            if (Modifier.isPublic(method.getModifiers())) {
                boolean answers = method.getReturnType() != void.class;
                String call = "crawl." + method.getName() + "(";
                if (program.stream().noneMatch(line -> line.contains(call) && line.contains("told(") == answers)) {
                    throw new IllegalStateException("README.md does not show " + call + "..)");
                }
            }
        }
    }
}
