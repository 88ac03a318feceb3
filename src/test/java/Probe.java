import java.util.ArrayList;
import java.util.List;

/**
 * Calls that bring to light all that an object holds, what no call tells by itself too: shares, screens,
 * rows and spans. Two objects that hold the same answer them alike. Some 360 calls at most.
 */
final class Probe {
    private final Mill mill;
    private final List<String> answers = new ArrayList<>();

    private Probe(Mill mill) {
        this.mill = mill;
    }

    static List<String> of(Mill mill) {
        Probe probe = new Probe(mill);
        probe.whatIsTold();
        probe.shares();
        probe.numberOfBins();
        probe.emptyBins();
        probe.rows();
        probe.screens();
        probe.spans();
        return probe.answers;
    }

    private String ask(String row) {
        String answer = mill.call(row);
        answers.add(row + " = " + answer);
        return answer;
    }

    private void whatIsTold() {
        for (String all : new String[] {" false", " true"}) {
            for (int kind = 0; kind < 4; kind++) {
                ask("volume " + kind + all);
            }
            ask("boards" + all);
        }
        for (int bin = 0; bin < 8; bin++) {
            for (int what = 0; what < 6; what++) {
                ask("about " + bin + " " + what);
            }
        }
        for (int what = 0; what < 4; what++) {
            ask("shift " + what);
        }
        ask("carbon");
    }

    private void shares() {
        ask("log 1000 0 0");
        ask("volume 0 false");
        // Without bark the offcuts' share shows even where all was bark.
        ask("share 0 0 1");
        ask("log 1000 0 0");
        ask("volume 3 false");
    }

    private void numberOfBins() {
        for (int i = 0; i < 9; i++) {
            if (ask("bin 0 1000000").startsWith("throws.")) {
                return;
            }
        }
    }

    private void emptyBins() {
        for (int bin = 0; bin < 8; bin++) {
            String grams = ask("about " + bin + " 5");
            if (grams.length() > 3) {
                ask("sell " + bin + " " + grams.substring(0, grams.length() - 3) + " 0");
            }
        }
    }

    private void rows() {
        for (int day : new int[] {0, 1, 10, 100, 300, 363, 364}) {
            ask("pour 7 1 0");
            ask("burn 7 1 " + day);
        }
        ask("row 364 77");
    }

    private void screens() {
        for (int screen = 0; screen < 4; screen++) {
            ask("send " + screen + " 60 500");
            emptyBins();
        }
    }

    private void spans() {
        for (int bin = 0; bin < 8; bin++) {
            int from = bin == 0 ? 1 : 0;
            for (int water : new int[] {0, 1, 500, 501, 999, 1000}) {
                ask("pour " + from + " 1 " + water);
                boolean mixed = ask("mix " + from + " " + bin + " 1").equals("true");
                ask("sell " + (mixed ? bin : from) + " 1 0");
            }
        }
    }
}
