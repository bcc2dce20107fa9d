/** The edges of one promise: each sentence of the document that names one has a test of its own, told by its words. */
final class Edges {
    interface Sentence {
        void isKept(Check check);
    }

    private final String promise;
    private int kept = 0;
    private int broken = 0;

    Edges(String promise) {
        this.promise = promise;
    }

    /** An exception that no test expects breaks its sentence alone: those behind it are still looked at. */
    void of(String sentence, Sentence test) {
        Check check = new Check(promise + ": '" + sentence + "'");
        try {
            test.isKept(check);
        } catch (RuntimeException e) {
            check.tell("threw " + e);
        }
        if (check.isRight()) {
            kept++;
        } else {
            broken++;
        }
    }

    void finish() {
        System.out.println(promise + ": " + kept + " sentences are kept, " + broken + " are broken");
        if (broken > 0 || kept == 0) {
            System.exit(1);
        }
    }
}
