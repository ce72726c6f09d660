import java.io.IOException;
import java.nio.file.Files;
import java.nio.file.Path;
import java.util.ArrayList;
import java.util.Arrays;
import java.util.List;

/** What can be seen of the document and of LANGUAGE.md in the program's text alone. */
public final class SourceTest {
    private static final int MOST_LINES_OF_A_METHOD = 60;
    private static final int MOST_CLASSES = 12;

    /** What the document says ahead of calls, and these calls. */
    private static final String[][] SECTIONS = {
        {"pages, panels", "page", "panel", "turn", "read", "doubts", "orders", "isOne", "mirror"},
        {"figures, balloons", "figure", "draw", "balloon", "move", "faults", "breaks"},
        {"stories", "tell", "known", "contradictions"},
        {"work", "workers", "pass", "stage", "press", "printed"},
    };

    private static final String[] RULED_OUT = {
        "package ", "->", "::", "finally", "synchronized", "assert ", "try ", "catch", "Throwable", "Error", "getMessage",
        "NullPointerException", "ArrayIndexOutOfBounds", "ClassCastException", "NegativeArraySize", "ArrayStore",
        "Exact(", "System.", "Thread", "Random", "@", "hashCode", "toString", ".equals(", "var ", "float ", "double ",
    };

    public static void main(String[] args) throws IOException {
        Due due = new Due("SourceTest");
        Path path = Path.of(System.getProperty("root", "."), "src", "main", "java", "Panelry.java");
        List<String> lines = Files.readAllLines(path);
        for (String[] section : SECTIONS) {
            for (int i = 1; i < section.length; i++) {
                due.same("what stands ahead of " + section[i], "// ---- " + section[0], sectionOf(section[i], lines));
            }
        }
        for (String word : RULED_OUT) {
            due.same("lines with " + word, "[]", linesWith(word, lines).toString());
        }
        due.same("what is imported", "[import java.util.ArrayList;, import java.util.Arrays;]",
                linesWith("import ", lines).toString());
        due.holds("there are few classes", true, () -> linesWith("class ", lines).size() <= MOST_CLASSES);
        due.same("methods that are too long", "[]", longMethods(lines).toString());
        due.end();
    }

    private static String sectionOf(String call, List<String> lines) {
        String section = "";
        for (String line : lines) {
            if (line.startsWith("    // ---- ")) {
                section = line.strip();
            }
            if (line.startsWith("    public ") && line.contains(" " + call + "(")) {
                return section;
            }
        }
        return "no such call";
    }

    private static List<String> linesWith(String word, List<String> lines) {
        List<String> found = new ArrayList<>();
        for (String line : lines) {
            String stripped = line.strip();
            boolean isComment = stripped.startsWith("*") || stripped.startsWith("/*") || stripped.startsWith("//");
            if (!isComment && line.contains(word)) {
                found.add(stripped);
            }
        }
        return found;
    }

    /** A method ends where a brace stands as far in as the line it begins with. */
    private static List<String> longMethods(List<String> lines) {
        List<String> found = new ArrayList<>();
        for (String indent : Arrays.asList("    ", "        ")) {
            int begin = 0;
            for (int i = 0; i < lines.size(); i++) {
                String line = lines.get(i);
                boolean isAtIndent = line.startsWith(indent) && !line.startsWith(indent + " ");
                if (isAtIndent && (line.contains("(") || line.contains("class "))) {
                    begin = i;
                }
                boolean isMethod = line.equals(indent + "}") && !lines.get(begin).contains("class ");
                if (isMethod && i - begin + 1 > MOST_LINES_OF_A_METHOD) {
                    found.add(lines.get(begin).strip());
                }
            }
        }
        return found;
    }
}
