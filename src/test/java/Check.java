/** Counts the answers that are not as due, and ends a test with exit code 1 if there was one. */
final class Check {
    private final String test;
    private String promise = "";
    private int calls;
    private int wrong;

    Check(String test) {
        this.test = test;
    }

    /** The calls that come now test this promise. */
    void promise(int number, String call) {
        promise = "promise " + number + " (" + call + ")";
    }

    /** The calls that come now test this sentence of the document's terms. */
    void sentence(String words) {
        promise = "\"" + words + "\"";
    }

    void due(String call, long got, long want) {
        calls++;
        if (got != want) {
            wrong++;
            System.out.println(test + ", " + promise + ": " + call + " answered " + got + ", due is " + want);
        }
    }

    /** What was found last: these legs and no more, with these costs. */
    void found(RunSayer x, String what, long twists, long feet, int... legs) {
        for (int i = 0; i < legs.length; i++) {
            due(what + ": leg(" + i + ")", x.leg(i), legs[i]);
        }
        due(what + ": behind the last leg", x.leg(legs.length), RunSayer.NONE);
        due(what + ": cost(0)", x.cost(0), twists);
        due(what + ": cost(1)", x.cost(1), feet);
    }

    void isTrue(String what, boolean holds) {
        due(what, holds ? 1 : 0, 1);
    }

    void end() {
        System.out.println(test + ": " + calls + " answers, " + wrong + " not as due");
        if (wrong != 0) {
            System.exit(1);
        }
    }
}
