import java.io.IOException;
import java.nio.file.Files;
import java.nio.file.Path;
import java.util.HashMap;
import java.util.Map;
import java.util.Set;
import java.util.TreeSet;
import java.util.regex.Matcher;
import java.util.regex.Pattern;

/** README.md: its example answers what stands behind "// =", and it shows every call of the face. */
public final class ReadmeTest {
    private static final Pattern CALL = Pattern.compile("(?:int (\\w+) = )?mill\\.(\\w+)\\(([^)]*)\\);\\s*(?://(.*))?");
    private static final Pattern DUE = Pattern.compile("\\s*= (true|false|-?\\d+).*");
    private static final String FIRST_LINE = "ResidueFlows mill = new ResidueFlows();";

    private final Mill mill = new Mill();
    private final Map<String, String> numbers = new HashMap<>();
    private final Set<String> shown = new TreeSet<>();

    private ReadmeTest() {
        numbers.put("ResidueFlows.BARK", "" + ResidueFlows.BARK);
        numbers.put("ResidueFlows.CHIPS", "" + ResidueFlows.CHIPS);
        numbers.put("ResidueFlows.DUST", "" + ResidueFlows.DUST);
        numbers.put("ResidueFlows.OFFCUTS", "" + ResidueFlows.OFFCUTS);
    }

    public static void main(String[] args) throws IOException {
        new ReadmeTest().check(Files.readString(Path.of("README.md")));
        Check.end();
    }

    private void check(String readme) {
        int start = readme.indexOf(FIRST_LINE);
        int end = readme.indexOf("```", Math.max(0, start));
        if (start < 0 || end < 0) {
            Check.report("README.md has no example");
            return;
        }
        for (String line : readme.substring(start + FIRST_LINE.length(), end).split("\n")) {
            if (!line.isBlank()) {
                checkLine(line);
            }
        }
        Set<String> face = new TreeSet<>();
        for (var method : ResidueFlows.class.getMethods()) {
            if (method.getDeclaringClass() == ResidueFlows.class) {
                face.add(method.getName());
            }
        }
        Check.same("the calls that the example shows", shown.toString(), face.toString());
    }

    private void checkLine(String line) {
        Matcher call = CALL.matcher(line);
        if (!call.matches()) {
            Check.report("README.md: not a call: " + line);
            return;
        }
        StringBuilder row = new StringBuilder(call.group(2));
        for (String argument : call.group(3).split(", *")) {
            row.append(' ').append(numbers.getOrDefault(argument, argument));
        }
        String answer = mill.call(row.toString());
        Matcher due = DUE.matcher(call.group(4) == null ? "" : call.group(4));
        Check.same("README.md: " + line, answer, due.matches() ? due.group(1) : Mill.DONE);
        if (call.group(1) != null) {
            numbers.put(call.group(1), answer);
        }
        shown.add(call.group(2));
    }
}
