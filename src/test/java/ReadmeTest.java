import java.nio.file.Path;
import java.util.ArrayList;
import java.util.HashMap;
import java.util.List;
import java.util.Map;
import java.util.regex.Matcher;
import java.util.regex.Pattern;

/** README.md: its example answers what it says, and its table has the document's face. */
final class ReadmeTest {
    private static final Path FILE = Path.of("README.md");
    private static final Pattern CALL = Pattern.compile("(?:int (\\w+) = )?x\\.(\\w+)\\((.*?)\\);\\s+// (.*)");
    private static final Pattern ANSWER = Pattern.compile("(true|false|\\d+|throws \\w+)\\b.*");

    private final ClauseGlass x = new ClauseGlass();
    private final Map<String, Integer> names = new HashMap<>();
    private int calls = 0;

    public static void main(String[] args) {
        new ReadmeTest().runExample();
        lookAtTable();
        Check.finish();
    }

    private void runExample() {
        boolean inside = false;
        for (String line : Document.lines(FILE)) {
            if (line.startsWith("```")) {
                inside = line.equals("```java");
            } else if (inside && !line.equals("ClauseGlass x = new ClauseGlass();")) {
                runLine(line);
            }
        }
        Check.due("calls in the example", calls > 0, true);
    }

    private void runLine(String line) {
        Matcher call = CALL.matcher(line);
        if (!call.matches()) {
            Check.due(line, "not read", "a call");
            return;
        }
        String got = new FaceCall(call.group(2), arguments(call.group(3))).answerOf(x);
        calls++;
        Matcher answer = ANSWER.matcher(call.group(4));
        // What begin does is told in words: it answers nothing.
        String due = call.group(2).equals("begin") ? "0" : answer.matches() ? answer.group(1) : call.group(4);
        Check.due(line, got, due.replace("true", "1").replace("false", "0").replace("throws ", "throws."));
        if (call.group(1) != null && !got.startsWith("throws.")) {
            names.put(call.group(1), Integer.parseInt(got));
        }
    }

    private int[] arguments(String told) {
        if (told.isEmpty()) {
            return new int[0];
        }
        String[] each = told.split(", ");
        int[] values = new int[each.length];
        for (int i = 0; i < each.length; i++) {
            values[i] = names.containsKey(each[i]) ? names.get(each[i]) : Integer.parseInt(each[i]);
        }
        return values;
    }

    private static void lookAtTable() {
        List<String> lines = new ArrayList<>();
        for (String line : Document.lines(FILE)) {
            String[] cells = line.split(" \\| ");
            if (cells.length == 4 && cells[0].startsWith("| `")) {
                String call = cells[0].substring("| `".length(), cells[0].length() - 1);
                String bad = told(cells[2], "IllegalArgumentException");
                String full = told(cells[3], "IndexOutOfBoundsException");
                lines.add(call + (bad + full).replaceFirst(",", " throws"));
            }
        }
        List<String> due = Document.face();
        Check.due("ClauseGlass() is in the face", due.remove("ClauseGlass()"), true);
        Check.due("table of calls", lines.toString(), due.toString());
    }

    private static String told(String cell, String exception) {
        return cell.replace(" |", "").equals("never") ? "" : ", " + exception;
    }
}
