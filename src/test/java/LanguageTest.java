import java.nio.file.Files;
import java.nio.file.Path;
import java.util.ArrayList;
import java.util.HashMap;
import java.util.HashSet;
import java.util.List;
import java.util.Map;
import java.util.Set;
import java.util.regex.Matcher;
import java.util.regex.Pattern;

/** The rules of ../shared/LANGUAGE.md that can be seen from the text of the program. */
public final class LanguageTest {
    private static final Due DUE = new Due("LanguageTest");
    private static final Path SOURCE = Path.of("src/main/java/KeyframeCurves.java");

    /** What the program never says: other libraries, what the machine throws, and what the rules leave out. */
    private static final String[] ABSENT = {"package ", "import ", "->", "::", "\\btry\\b", "\\bcatch\\b", "\\bfinally\\b",
        "\\bthrow\\b", "\\bthrows\\b", "\\bassert\\b", "synchronized", "\\bvar\\b", "\\bprotected\\b", "Exact\\(", "Exception",
        "System\\.(?!arraycopy\\()", "Math\\.(?!min\\(|max\\(|abs\\(|floorDiv\\(|floorMod\\()", "Random", "Thread", "\\bfloat [a-z]+[ ;]",
        "\\bdouble [a-z]+[ ;]", "hashCode", "toString", "static \\{", "Object", "\"", "[^\\x00-\\x7f]"};

    /** Where an index or a divisor is used: the line must hold, or follow, its test. */
    private static final List<String> INDEXED = List.of(
        "return index >= 0 && index < row.length ? row[index] : 0;",
        "row[index] = content;",
        "return index >= 0 && index < curves.length ? curves[index] : null;",
        "return index >= 0 && index < states.length ? states[index] : null;",
        "curves[i] = new Curve();",
        "states[i] = new State();");
    private static final String[] DIVIDED = {
        "return (float) asked.partsAt(frame) / 64.0f;",
        "return (double) sum / (64.0 * (to - from + 1));",
        "return step > 0 ? (to - from) / step + 1 : 0;",
        "Curve curve = state.curveAt(detail / LOOK_BACK);",
        "int earlier = Math.max(0, frame - detail % LOOK_BACK);",
        "oldest = (oldest + 1) % MOST_STATES;",
        "State kept = stateAt((oldest + count) % MOST_STATES);"};

    /** The methods that call one another, with the depth as an argument; all others stay outside any circle of calls. */
    private static final Set<String> RECURSIVE = Set.of("sum", "product", "factor", "choice");
    private static final int DEEPEST = 8;
    private static final Pattern METHOD = Pattern.compile("(?: {4}| {8})(?:[a-z]+ )*[A-Za-z\\[\\]]+ ([a-z][A-Za-z]*)\\(.*\\) \\{");
    private static final Pattern CALL = Pattern.compile("\\b(Math\\.|System\\.)?([a-z][A-Za-z]*)\\(");
    private static final Set<String> NO_CALLS = Set.of("if", "for", "while", "switch", "return");

    public static void main(String[] args) throws Exception {
        List<String> lines = Files.readAllLines(SOURCE);
        StringBuilder all = new StringBuilder();
        for (String line : lines) {
            all.append(line.replaceAll("//.*", "")).append('\n');
        }
        String code = Pattern.compile("/\\*.*?\\*/", Pattern.DOTALL).matcher(all).replaceAll("");
        absentWords(code);
        guarded(code);
        methodsAreShort(code);
        objectsAreMadeOnce(code);
        callsAreNotDeep(code);
        DUE.finish();
    }

    private static void absentWords(String code) {
        for (String word : ABSENT) {
            Matcher m = Pattern.compile(word).matcher(code);
            DUE.holds("the absence of " + word, !m.find());
        }
    }

    private static void guarded(String code) {
        for (String line : code.split("\n")) {
            String told = line.trim();
            String values = told.replaceAll("new [A-Za-z]+\\[[A-Z_0-9 +]+\\]", "");
            if (values.matches(".*[a-z]\\[[^\\]]+\\].*")) {
                DUE.holds("a test of the index in: " + told, INDEXED.contains(told));
            }
            if (told.matches(".*[^/][/%][^/].*")) {
                DUE.holds("a test of the divisor in: " + told, List.of(DIVIDED).contains(told));
            }
        }
    }

    private static void methodsAreShort(String code) {
        int start = 0;
        int classes = 0;
        String[] lines = code.split("\n");
        for (int i = 0; i < lines.length; i++) {
            if (lines[i].matches("( {4}| {8})[a-zA-Z].*\\) \\{")) {
                start = i;
                int parameters = lines[i].split(",").length;
                DUE.holds("at most seven parameters in " + lines[i].trim(), parameters <= 7);
            }
            if (lines[i].matches("( {4}| {8})\\}")) {
                DUE.holds("a method of at most 60 lines before line " + i, lines[start].contains(" class ") || i - start < 60);
            }
            classes += lines[i].matches(" *(public|private)?.* class .*\\{") ? 1 : 0;
            DUE.holds("at most 125 letters in " + lines[i], lines[i].length() <= 125);
        }
        DUE.holds("at most twelve classes", classes <= 12 && classes > 0);
    }

    /** All objects are made with the editor, as fields or in constructors, so that no call makes one. */
    private static void objectsAreMadeOnce(String code) {
        for (String line : code.split("\n")) {
            if (line.matches(".*\\bnew\\b.*")) {
                boolean field = line.matches("( {4}| {8})(private )?final [A-Za-z]+(\\[\\])? [a-zA-Z]+ = new .*;");
                DUE.holds("a field or a row of a constructor in: " + line.trim(), field || INDEXED.contains(line.trim()));
            }
        }
    }

    /** Methods of one name, in whatever classes, are taken for one, so that no way of calls is overlooked. */
    private static void callsAreNotDeep(String code) {
        Map<String, Set<String>> calls = new HashMap<>();
        Set<String> called = null;
        for (String line : code.split("\n")) {
            Matcher method = METHOD.matcher(line);
            if (method.matches()) {
                called = calls.computeIfAbsent(method.group(1), name -> new HashSet<>());
            } else if (called != null) {
                collectCalls(line, called);
            }
        }
        DUE.holds("more than a hundred methods found", calls.size() > 100);
        for (String name : calls.keySet()) {
            int depth = depth(name, calls, new ArrayList<>());
            DUE.holds("at most eight calls deep from " + name + ", not " + depth, depth <= DEEPEST);
        }
    }

    private static void collectCalls(String line, Set<String> called) {
        Matcher call = CALL.matcher(line);
        while (call.find()) {
            if (call.group(1) != null) {
                called.add(call.group());
            } else if (!NO_CALLS.contains(call.group(2)) && !line.contains("new " + call.group(2))) {
                called.add(call.group(2));
            }
        }
    }

    private static int depth(String name, Map<String, Set<String>> calls, List<String> open) {
        if (open.contains(name)) {
            DUE.holds(name + ", which calls itself by " + open + ",", RECURSIVE.contains(name));
            return 0;
        }
        open.add(name);
        int deepest = 0;
        for (String next : calls.getOrDefault(name, Set.of())) {
            deepest = Math.max(deepest, depth(next, calls, open));
        }
        open.remove(open.size() - 1);
        return deepest + (RECURSIVE.contains(name) ? 0 : 1);
    }
}
