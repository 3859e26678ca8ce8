import java.util.List;

/**
 * Holds answers to the ones that are due. Each test is of one sentence of the document: it begins with
 * promise(..) or terms(..), and what is wrong from there on is told with that promise and that sentence.
 */
final class Due {
    private String sentence = "";
    private int tests = 0;
    private int answers = 0;
    private int wrong = 0;

    /** Begins the test of a sentence of a promise. */
    void promise(int promise, String words) {
        begin("promise " + promise, words);
        check("the words stand in the promise", Document.promise(promise).contains(words));
    }

    /** Begins the test of a sentence ahead of the promises, told by the promise that it is tried with. */
    void terms(int promise, String words) {
        begin("promise " + promise + " and the terms", words);
        check("the words stand ahead of the promises", Document.aheadOfPromises().contains(words));
    }

    private void begin(String where, String words) {
        tests++;
        sentence = where + ", \"" + words + "\": ";
    }

    void due(String call, long got, long want) {
        if (got != want) {
            tell(call + " answered " + got + ", due is " + want);
        }
        answers++;
    }

    void due(String call, double got, double want) {
        if (got != want) {
            tell(call + " answered " + got + ", due is " + want);
        }
        answers++;
    }

    void check(String what, boolean holds) {
        if (!holds) {
            tell("it does not hold that " + what);
        }
        answers++;
    }

    /** Two lists of answers that are to be the same; only the first that differs is told. */
    void same(String when, List<String> got, List<String> want) {
        answers++;
        if (got.size() != want.size()) {
            tell(when + ": " + got.size() + " answers, due are " + want.size());
            return;
        }
        for (int i = 0; i < got.size(); i++) {
            if (!got.get(i).equals(want.get(i))) {
                tell(when + ": " + got.get(i) + ", due is " + want.get(i));
                return;
            }
        }
    }

    private void tell(String what) {
        wrong++;
        System.out.println(sentence + what);
    }

    void close(String name) {
        System.out.println(name + ": " + tests + " sentences, " + answers + " answers, " + wrong + " wrong");
        if (wrong != 0) {
            System.exit(1);
        }
    }
}
