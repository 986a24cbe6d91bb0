import java.util.ArrayList;
import java.util.List;

/** The tests of a promise: one of its own for each sentence of the document, told by the sentence's words. */
final class Sentences {
    private final String promise;
    private final List<Checks> tests = new ArrayList<>();

    Sentences(String promise) {
        this.promise = promise;
    }

    Checks test(String words) {
        Checks checks = new Checks(promise + " | " + words);
        tests.add(checks);
        return checks;
    }

    void end() {
        boolean good = !tests.isEmpty();
        for (Checks checks : tests) {
            good &= checks.told();
        }
        if (!good) {
            System.exit(1);
        }
    }
}
