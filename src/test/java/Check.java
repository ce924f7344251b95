/** Counts what a test finds: each answer that is not the one due is printed. */
final class Check {
    private static final int MOST_PRINTED = 40;
    private final String name;
    private int asked;
    private int wrong;

    Check(String name) {
        this.name = name;
    }

    void due(String what, long want, long got) {
        asked++;
        if (want != got) {
            fault(what + " answered " + got + ", due is " + want);
        }
    }

    void yes(String what, boolean got) {
        asked++;
        if (!got) {
            fault(what + " is not so");
        }
    }

    void no(String what, boolean got) {
        yes("not " + what, !got);
    }

    void fault(String line) {
        wrong++;
        if (wrong <= MOST_PRINTED) {
            System.out.println(name + ": " + line);
        }
    }

    void finish() {
        System.out.println(name + ": " + asked + " answers looked at, " + wrong + " wrong");
        if (wrong != 0 || asked == 0) {
            System.exit(1);
        }
    }
}
