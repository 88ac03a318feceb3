import java.util.Arrays;

/**
 * A new object whose calls are written as text, "pour 0 11 500"; a number may be a product, "4*63504000".
 * It counts the calls, as the document promises nothing behind the 512th one.
 */
final class Mill {
    static final int MOST_CALLS = 512;
    /** The answer of a call that has none. */
    static final String DONE = "done";

    private final ResidueFlows flows = new ResidueFlows();
    private int calls = 0;

    static long number(String text) {
        long product = 1;
        for (String factor : text.split("\\*")) {
            product *= Long.parseLong(factor);
        }
        return product;
    }

    /** What the call answers; "throws." and the name of just the class that it throws (not of one above it). */
    String call(String row) {
        String[] words = row.trim().split(" +");
        if (words[0].equals("volume") || words[0].equals("boards")) {
            words[words.length - 1] = words[words.length - 1].equals("true") ? "1" : "0";
        }
        long[] n = Arrays.stream(words).skip(1).mapToLong(Mill::number).toArray();
        calls++;
        if (calls > MOST_CALLS) {
            Check.report(row + " is call " + calls + ", and nothing is promised of it");
        }
        try {
            return answer(words[0], n);
        } catch (RuntimeException e) {
            return "throws." + e.getClass().getSimpleName();
        }
    }

    private static int at(long[] n, int k) {
        return Math.toIntExact(n[k]);
    }

    private String answer(String name, long[] n) {
        switch (name) {
            case "volume": return "" + flows.volume(at(n, 0), n[1] == 1);
            case "boards": return "" + flows.boards(n[0] == 1);
            case "bin": return "" + flows.bin(at(n, 0), at(n, 1));
            case "about": return "" + flows.about(at(n, 0), at(n, 1));
            case "shift": return "" + flows.shift(at(n, 0));
            case "row": return "" + flows.row(at(n, 0), at(n, 1));
            case "carbon": return "" + flows.carbon();
            case "log": return "" + flows.log(at(n, 0), at(n, 1), at(n, 2));
            case "pour": return "" + flows.pour(at(n, 0), at(n, 1), at(n, 2));
            case "send": return "" + flows.send(at(n, 0), at(n, 1), at(n, 2));
            case "burn": return "" + flows.burn(at(n, 0), at(n, 1), at(n, 2));
            case "sell": return "" + flows.sell(at(n, 0), at(n, 1), at(n, 2));
            case "mix": return "" + flows.mix(at(n, 0), at(n, 1), at(n, 2));
            default: return answerOfNone(name, n);
        }
    }

    private String answerOfNone(String name, long[] n) {
        switch (name) {
            case "share": flows.share(at(n, 0), at(n, 1), at(n, 2)); break;
            case "span": flows.span(at(n, 0), at(n, 1), at(n, 2)); break;
            case "scale": flows.scale(at(n, 0), n[1]); break;
            case "screen": flows.screen(at(n, 0), at(n, 1), at(n, 2), at(n, 3), at(n, 4), at(n, 5)); break;
            case "begin": flows.begin(); break;
            default: return "no such call";
        }
        return DONE;
    }
}
