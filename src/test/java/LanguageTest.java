import java.nio.file.Files;
import java.nio.file.Path;
import java.util.List;
import java.util.regex.Matcher;
import java.util.regex.Pattern;

/** The rules of ../shared/LANGUAGE.md that can be seen from the text of the program. */
public final class LanguageTest {
    private static final Due DUE = new Due("LanguageTest");
    private static final Path SOURCE = Path.of("src/main/java/KeyframeCurves.java");

    /** What the program never says: other libraries, what the machine throws, and what the rules leave out. */
    private static final String[] ABSENT = {"package ", "import ", "->", "::", "\\btry\\b", "\\bcatch\\b", "\\bfinally\\b",
        "\\bthrow\\b", "\\bthrows\\b", "\\bassert\\b", "synchronized", "\\bvar\\b", "\\bprotected\\b", "Exact\\(", "Exception",
        "System\\.(?!arraycopy\\()", "Math\\.(?!min\\(|max\\(|abs\\(|floorDiv\\(|floorMod\\()", "Random", "Thread", "\\bfloat [a-z]+[ ;]",
        "\\bdouble [a-z]+[ ;]", "hashCode", "toString", "static \\{", "Object", "\"", "[^\\x00-\\x7f]"};

    /** Where an index or a divisor is used: the line must hold, or follow, its test. */
    private static final String[] INDEXED = {
        "return index >= 0 && index < row.length ? row[index] : 0;",
        "row[index] = content;",
        "return index >= 0 && index < curves.length ? curves[index] : null;",
        "return index >= 0 && index < states.length ? states[index] : null;",
        "curves[i] = new Curve();",
        "states[i] = new State();"};
    private static final String[] DIVIDED = {
        "return (float) asked.partsAt(frame) / 64.0f;",
        "return (double) sum / (64.0 * (to - from + 1));",
        "return step > 0 ? (to - from) / step + 1 : 0;",
        "Curve curve = state.curveAt(detail / LOOK_BACK);",
        "int earlier = Math.max(0, frame - detail % LOOK_BACK);",
        "oldest = (oldest + 1) % MOST_STATES;",
        "State kept = stateAt((oldest + count) % MOST_STATES);"};

    public static void main(String[] args) throws Exception {
        List<String> lines = Files.readAllLines(SOURCE);
        StringBuilder all = new StringBuilder();
        for (String line : lines) {
            all.append(line.replaceAll("//.*", "")).append('\n');
        }
        String code = Pattern.compile("/\\*.*?\\*/", Pattern.DOTALL).matcher(all).replaceAll("");
        absentWords(code);
        guarded(code);
        methodsAreShort(code);
        DUE.finish();
    }

    private static void absentWords(String code) {
        for (String word : ABSENT) {
            Matcher m = Pattern.compile(word).matcher(code);
            DUE.holds("the absence of " + word, !m.find());
        }
    }

    private static void guarded(String code) {
        for (String line : code.split("\n")) {
            String told = line.trim();
            String values = told.replaceAll("new [A-Za-z]+\\[[A-Z_0-9 +]+\\]", "");
            if (values.matches(".*[a-z]\\[[^\\]]+\\].*")) {
                DUE.holds("a test of the index in: " + told, List.of(INDEXED).contains(told));
            }
            if (told.matches(".*[^/][/%][^/].*")) {
                DUE.holds("a test of the divisor in: " + told, List.of(DIVIDED).contains(told));
            }
        }
    }

    private static void methodsAreShort(String code) {
        int start = 0;
        int classes = 0;
        String[] lines = code.split("\n");
        for (int i = 0; i < lines.length; i++) {
            if (lines[i].matches("( {4}| {8})[a-zA-Z].*\\) \\{")) {
                start = i;
                int parameters = lines[i].split(",").length;
                DUE.holds("at most seven parameters in " + lines[i].trim(), parameters <= 7);
            }
            if (lines[i].matches("( {4}| {8})\\}")) {
                DUE.holds("a method of at most 60 lines before line " + i, lines[start].contains(" class ") || i - start < 60);
            }
            classes += lines[i].matches(" *(public|private)?.* class .*\\{") ? 1 : 0;
            DUE.holds("at most 125 letters in " + lines[i], lines[i].length() <= 125);
        }
        DUE.holds("at most twelve classes", classes <= 12 && classes > 0);
    }
}
