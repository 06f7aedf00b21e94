import java.util.ArrayList;
import java.util.List;

/** The tests of the document's sentences that name a boundary: each with a promise's number and the sentence. */
final class Boundaries {
    private final List<Boundary> all = new ArrayList<>();

    record Boundary(int promise, String sentence, Runnable test) {
    }

    /** The sentence is one of the promise, or one of those that belong to every promise. */
    void add(int promise, String sentence, Runnable test) {
        all.add(new Boundary(promise, sentence, test));
    }

    List<Boundary> all() {
        return all;
    }
}
