/** Counts the answers that are not as due, and ends a test with exit code 1 if there was one. */
final class Check {
    private final String test;
    private String promise = "";
    private int calls;
    private int wrong;

    Check(String test) {
        this.test = test;
    }

    /** The calls that come now test this promise. */
    void promise(int number, String call) {
        promise = "promise " + number + " (" + call + ")";
    }

    void due(String call, long got, long want) {
        calls++;
        if (got != want) {
            wrong++;
            System.out.println(test + ", " + promise + ": " + call + " answered " + got + ", due is " + want);
        }
    }

    void isTrue(String what, boolean holds) {
        due(what, holds ? 1 : 0, 1);
    }

    void end() {
        System.out.println(test + ": " + calls + " answers, " + wrong + " not as due");
        if (wrong != 0) {
            System.exit(1);
        }
    }
}
