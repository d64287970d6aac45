/** Compares answers with those that are due, and ends a test by what came of it. */
final class Check {
    private int wrong = 0;
    private int made = 0;
    private String part = "";

    /** Names what the next answers are about. */
    void about(String newPart) {
        part = newPart;
    }

    void due(String call, long got, long want) {
        made++;
        if (got != want) {
            wrong++;
            System.out.println(part + ": " + call + " answered " + got + ", due is " + want);
        }
    }

    void due(String call, boolean got, boolean want) {
        due(call, got ? 1 : 0, want ? 1 : 0);
    }

    void due(String call, String got, String want) {
        made++;
        if (!got.equals(want)) {
            wrong++;
            System.out.println(part + ": " + call + " answered " + got + ", due is " + want);
        }
    }

    boolean isClean() {
        return wrong == 0;
    }

    void end() {
        System.out.println(made + " answers looked at, " + wrong + " wrong");
        if (wrong != 0 || made == 0) {
            System.exit(1);
        }
    }
}
