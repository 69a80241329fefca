/** Compares answers with those that are due; prints each that is not, and ends with 1 then. */
final class Due {
    private String name;
    private int asked;
    private int wrong;

    Due(String name) {
        this.name = name;
    }

    /** What is asked from now on is told under this name. */
    void within(String part) {
        name = part;
    }

    int asked() {
        return asked;
    }

    void is(String call, long got, long want) {
        asked++;
        if (got != want) {
            wrong++;
            System.out.println(name + ": " + call + " answered " + got + ", due is " + want);
        }
    }

    void is(String call, String got, String want) {
        asked++;
        if (!got.equals(want)) {
            wrong++;
            System.out.println(name + ": " + call + " answered " + got + ", due is " + want);
        }
    }

    void holds(String what, boolean so) {
        asked++;
        if (!so) {
            wrong++;
            System.out.println(name + ": not so: " + what);
        }
    }

    boolean tooMany() {
        return wrong > 20;
    }

    void end() {
        System.out.println(name + ": " + asked + " answers, " + wrong + " not as due");
        if (wrong != 0 || asked == 0) {
            System.exit(1);
        }
    }
}
