/** Compares answers with those that are due. */
final class Due {
    private final String test;
    private int asked = 0;
    private int wrong = 0;

    Due(String test) {
        this.test = test;
    }

    void is(String call, long got, long want) {
        asked++;
        if (got != want) {
            wrong++;
            System.out.println(test + ": " + call + " answered " + got + ", due is " + want);
        }
    }

    void same(String what, String got, String want) {
        asked++;
        if (!got.equals(want)) {
            wrong++;
            System.out.println(test + ": " + what + " is\n  " + got + "\ndue is\n  " + want);
        }
    }

    void threw(RuntimeException e) {
        wrong++;
        System.out.println(test + ": threw " + e);
        e.printStackTrace(System.out);
    }

    int asked() {
        return asked;
    }

    /** A test that asked nothing has shown nothing. */
    boolean allRight() {
        return wrong == 0 && asked > 0;
    }
}
