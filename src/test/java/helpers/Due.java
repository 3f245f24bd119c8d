/** Collects the answers that are not as due, and ends a test by them. */
final class Due {
    private final String test;
    private String part = "";
    private int checks;
    private int wrong;
    private int checksBefore;

    Due(String test) {
        this.test = test;
    }

    /** Begins a part of the test; the part before it must have checked something. */
    void begin(String name) {
        endPart();
        part = " " + name;
        checksBefore = checks;
    }

    void is(String call, long got, long want) {
        checks++;
        if (got != want) {
            wrong++;
            System.out.println(test + part + ": " + call + " answered " + got + ", due is " + want);
        }
    }

    void holds(String what, boolean holds) {
        is(what, holds ? 1 : 0, 1);
    }

    void end() {
        endPart();
        System.out.println(test + ": " + checks + " checks, " + wrong + " wrong");
        if (wrong != 0 || checks == 0) {
            System.exit(1);
        }
    }

    private void endPart() {
        if (!part.isEmpty() && checks == checksBefore) {
            wrong++;
            System.out.println(test + part + ": nothing is checked");
        }
    }
}
