import java.util.List;

/**
 * A test is a run of calls on a new object, a call and its due answer a line: "pour 0 11 500 = false", or
 * the call alone if it answers nothing. A call that is refused (it throws, or answers false) must leave
 * everything as it was: an object that got it is compared with one that did not.
 */
final class Runs {
    private Runs() {
    }

    /** The title is the sentence of the document that the run tests. */
    static void run(String title, String text) {
        String[] lines = text.strip().split("\n");
        String[] calls = new String[lines.length];
        String[] dues = new String[lines.length];
        for (int i = 0; i < lines.length; i++) {
            String[] sides = lines[i].split(" = ");
            calls[i] = sides[0].trim();
            dues[i] = sides.length == 1 ? Mill.DONE : dueAnswer(sides[1].trim());
        }
        Mill mill = new Mill();
        for (int i = 0; i < calls.length; i++) {
            Check.same(title + "\n  call " + (i + 1) + ", " + calls[i], mill.call(calls[i]), dues[i]);
        }
        for (int i = 0; i < calls.length; i++) {
            if (dues[i].startsWith("throws.") || dues[i].equals("false")) {
                changesNothing(title, calls, i);
            }
        }
    }

    private static String dueAnswer(String text) {
        switch (text) {
            case "INDEX": return "throws.IndexOutOfBoundsException";
            case "ARGUMENT": return "throws.IllegalArgumentException";
            case "STATE": return "throws.IllegalStateException";
            case "NONE": return "" + ResidueFlows.NONE;
            case "true": case "false": return text;
            default: return "" + Mill.number(text);
        }
    }

    private static Mill after(String[] calls, int count) {
        Mill mill = new Mill();
        for (int i = 0; i < count; i++) {
            mill.call(calls[i]);
        }
        return mill;
    }

    private static void changesNothing(String title, String[] calls, int refused) {
        List<String> with = Probe.of(after(calls, refused + 1));
        List<String> without = Probe.of(after(calls, refused));
        for (int i = 0; i < with.size() && i < without.size(); i++) {
            if (!with.get(i).equals(without.get(i))) {
                Check.report(title + "\n  call " + (refused + 1) + ", " + calls[refused]
                        + ", is refused, yet it changed something: " + with.get(i) + ", without it " + without.get(i));
                return;
            }
        }
    }
}
