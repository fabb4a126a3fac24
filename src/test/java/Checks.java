import java.util.Map;
import java.util.TreeMap;

/** Counts the answers that are not as due, sentence by sentence, and ends the test by them. */
final class Checks {
    private static final int MOST_TOLD = 40;

    private final Map<String, Integer> bySentence = new TreeMap<>();
    private String sentence = "";
    private int made = 0;
    private int wrong = 0;

    /** What is looked at from here on, in the document's words. */
    void sentence(String words) {
        sentence = words;
        bySentence.putIfAbsent(words, 0);
    }

    void same(String what, int got, int due) {
        made++;
        bySentence.computeIfPresent(sentence, (words, count) -> count + 1);
        if (got != due) {
            fault(what + " answered " + got + ", due is " + due);
        }
    }

    void yes(String what, boolean got) {
        same(what, got ? 1 : 0, 1);
    }

    void no(String what, boolean got) {
        same(what, got ? 1 : 0, 0);
    }

    private void fault(String text) {
        wrong++;
        if (wrong <= MOST_TOLD) {
            System.out.println((sentence.isEmpty() ? "" : "[" + sentence + "] ") + text);
        }
    }

    int wrong() {
        return wrong;
    }

    void end() {
        // A sentence whose test looks at nothing would seem to hold.
        for (Map.Entry<String, Integer> entry : bySentence.entrySet()) {
            if (entry.getValue() == 0) {
                fault("nothing was looked at for [" + entry.getKey() + "]");
            }
        }
        String told = bySentence.isEmpty() ? "" : bySentence.size() + " sentences, ";
        System.out.println(told + made + " answers looked at, " + wrong + " not as due");
        if (wrong != 0 || made == 0) {
            System.exit(1);
        }
    }
}
