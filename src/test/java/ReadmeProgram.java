import java.io.IOException;
import java.lang.reflect.Method;
import java.nio.file.Files;
import java.nio.file.Path;
import java.util.ArrayList;
import java.util.List;
import java.util.regex.Matcher;
import java.util.regex.Pattern;

/**
 * Makes a program of what README.md shows: its Java blocks one behind the other, those that begin with "static" as methods.
 * A line that is a call has its answer in a comment behind it ("// 4", "// 4: words", "// throws Name"); the program asks, and compares.
 */
final class ReadmeProgram {
    private static final Pattern CALL = Pattern.compile("((?:heir\\.\\w+|tell)\\(.*\\));\\s*// (throws \\w+|true|false|-?\\d+)(?:: .*)?");

    private final List<String> methods = new ArrayList<>();
    private final List<String> statements = new ArrayList<>();
    private final List<String> complaints = new ArrayList<>();

    private ReadmeProgram() {
    }

    /** Takes the path of README.md, and the path of the program that is to be written: ReadmeUse.java. */
    public static void main(String[] paths) throws IOException {
        ReadmeProgram program = new ReadmeProgram();
        program.read(Files.readAllLines(Path.of(paths[0])));
        program.missCalls();
        for (String complaint : program.complaints) {
            System.out.println("README.md: " + complaint);
        }
        if (!program.complaints.isEmpty()) {
            System.exit(1);
        }
        Files.writeString(Path.of(paths[1]), program.text());
    }

    private void read(List<String> lines) {
        List<String> block = null;
        for (String line : lines) {
            if (block == null) {
                block = line.equals("```java") ? new ArrayList<>() : null;
            } else if (!line.equals("```")) {
                block.add(line);
            } else {
                add(block);
                block = null;
            }
        }
        if (block != null) {
            complaints.add("a block has no end");
        }
    }

    private void add(List<String> block) {
        if (!block.isEmpty() && block.get(0).startsWith("static ")) {
            methods.addAll(block);
            return;
        }
        for (String line : block) {
            Matcher call = CALL.matcher(line);
            if (call.matches()) {
                statements.add("due(" + quoted(call.group(1)) + ", () -> " + call.group(1) + ", " + quoted(call.group(2)) + ");");
            } else if (line.startsWith("heir.") || line.startsWith("tell(")) {
                complaints.add("no answer stands behind " + line);
            } else {
                statements.add(line);
            }
        }
    }

    /** README.md shows every call of the face. */
    private void missCalls() {
        String all = String.join("\n", statements);
        for (Method method : Calls.ofFace()) {
            if (!all.contains("heir." + method.getName() + "(")) {
                complaints.add("shows no " + method.getName());
            }
        }
    }

    private static String quoted(String text) {
        return '"' + text.replace("\\", "\\\\").replace("\"", "\\\"") + '"';
    }

    private String text() {
        List<String> lines = new ArrayList<>(List.of("final class ReadmeUse {",
            "static int right = 0;",
            "static int wrong = 0;",
            "static void due(String call, java.util.concurrent.Callable<Object> asked, String want) {",
            "String got;",
            "try { got = String.valueOf(asked.call()); } catch (Exception e) { got = \"throws \" + e.getClass().getSimpleName(); }",
            "if (got.equals(want)) { right++; return; }",
            "wrong++;",
            "System.out.println(\"README.md: \" + call + \" answered \" + got + \", it says \" + want);",
            "}"));
        lines.addAll(methods);
        lines.add("public static void main(String[] args) {");
        lines.addAll(statements);
        lines.add("System.out.println(\"README.md: \" + right + \" passed, \" + wrong + \" failed\");");
        lines.add("if (wrong != 0 || right == 0) { System.exit(1); }");
        lines.add("}");
        lines.add("}");
        return String.join("\n", lines) + "\n";
    }
}
