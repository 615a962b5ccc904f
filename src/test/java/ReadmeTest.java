import java.nio.file.Files;
import java.nio.file.Path;
import java.util.List;
import java.util.regex.Matcher;
import java.util.regex.Pattern;

/** The example of README.md: each call has the answer that stands behind its arrow. */
public final class ReadmeTest {
    private static final Due DUE = new Due("ReadmeTest");
    private static final Pattern TYPED = Pattern.compile("type\\(\"(.*)\"\\);");
    private static final Pattern CALL = Pattern.compile("editor\\.(.*\\)); +// -> (-?[0-9.]*[0-9]|[A-Z_]+).*");
    private static final Pattern CONSTANT = Pattern.compile("KeyframeCurves\\.([A-Z_]+)");

    public static void main(String[] args) throws Exception {
        Run run = new Run(DUE, "README.md");
        int answers = 0;
        for (String line : example()) {
            Matcher typed = TYPED.matcher(line);
            Matcher call = CALL.matcher(line);
            if (typed.matches()) {
                run.type(typed.group(1));
            } else if (call.matches()) {
                ask(run, withNumbers(call.group(1)), call.group(2));
                answers++;
            } else {
                boolean other = line.isEmpty() || line.startsWith("//") || line.startsWith("KeyframeCurves editor = ");
                DUE.holds("a call with its answer in: " + line, other);
            }
        }
        DUE.holds("more than twenty answers", answers > 20);
        DUE.finish();
    }

    private static List<String> example() throws Exception {
        List<String> lines = Files.readAllLines(Path.of("README.md"));
        int start = lines.indexOf("```java") + 1;
        int end = start + lines.subList(start, lines.size()).indexOf("```");
        return lines.subList(start, end);
    }

    private static void ask(Run run, String call, String told) throws Exception {
        if (told.contains(".")) {
            run.isDouble(call, Double.parseDouble(told));
        } else {
            run.is(call, Character.isLetter(told.charAt(0)) ? constant(told) : Long.parseLong(told));
        }
    }

    private static String withNumbers(String call) throws Exception {
        Matcher name = CONSTANT.matcher(call);
        StringBuilder s = new StringBuilder();
        while (name.find()) {
            name.appendReplacement(s, "" + constant(name.group(1)));
        }
        return name.appendTail(s).toString();
    }

    private static int constant(String name) throws Exception {
        return KeyframeCurves.class.getField(name).getInt(null);
    }
}
