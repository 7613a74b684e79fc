import java.util.HashSet;
import java.util.Set;

/** A test of its own for a sentence of the document that names a boundary case. */
final class Edge {
    interface Asking {
        void ask();
    }

    private static final Set<String> SENTENCES = new HashSet<>();
    private static final Set<Integer> PROMISES = new HashSet<>();

    private Edge() {
    }

    /** A sentence of a promise. */
    static void of(int promise, String sentence, Asking asking) {
        PROMISES.add(promise);
        run("promise " + promise + ", '" + sentence + "'", asking);
    }

    /** A sentence of the terms, by its part. */
    static void ofTerms(int part, String sentence, Asking asking) {
        run("terms " + part + ", '" + sentence + "'", asking);
    }

    private static void run(String sentence, Asking asking) {
        Check.about(sentence);
        if (!SENTENCES.add(sentence)) {
            Check.wrong("has two tests");
        }
        int before = Check.asked();
        try {
            asking.ask();
        } catch (RuntimeException e) {
            Check.wrong("threw " + e);
        }
        if (Check.asked() == before) {
            Check.wrong("nothing is asked");
        }
        Check.about("");
    }

    /** Each promise of the row must have had a sentence. */
    static void end(String test, int first, int last) {
        for (int promise = first; promise <= last; promise++) {
            if (!PROMISES.contains(promise)) {
                Check.wrong("promise " + promise + " has no boundary case");
            }
        }
        System.out.print(SENTENCES.size() + " sentences, ");
        Check.end(test);
    }
}
