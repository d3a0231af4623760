import java.util.function.Consumer;

/** Runs one test for each sentence of the document, and ends with exit code 1 if one does not hold. */
final class Sentences {
    private final String test;
    private int told = 0;
    private int asked = 0;
    private int broken = 0;

    Sentences(String test) {
        this.test = test;
    }

    void holds(String sentence, Consumer<Due> check) {
        Due due = new Due(test + ", '" + sentence + "'");
        try {
            check.accept(due);
        } catch (RuntimeException e) {
            due.threw(e);
        }
        told++;
        asked += due.asked();
        if (!due.allRight()) {
            broken++;
            System.out.println(test + ": does not hold: '" + sentence + "'");
        }
    }

    void finish() {
        System.out.println(test + ": " + told + " tests, " + asked + " answers, " + broken + " tests failed");
        if (broken != 0 || told == 0) {
            System.exit(1);
        }
    }
}
