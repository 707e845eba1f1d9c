/** Counts the answers that are not as due, and prints each of them. */
final class Check {
    private final String test;
    private int wrong;

    Check(String test) {
        this.test = test;
    }

    void due(String what, long got, long want) {
        if (got != want) {
            wrong++;
            System.out.println(test + ": " + what + " is " + got + ", due is " + want);
        }
    }

    void dueDouble(String what, double got, double want) {
        if (Double.compare(got, want) != 0) {
            wrong++;
            System.out.println(test + ": " + what + " is " + got + ", due is " + want);
        }
    }

    void dueText(String what, String got, String want) {
        if (!got.equals(want)) {
            wrong++;
            System.out.println(test + ": " + what + " is \"" + got + "\", due is \"" + want + "\"");
        }
    }

    void dueTrue(String what, boolean holds) {
        if (!holds) {
            wrong++;
            System.out.println(test + ": " + what + " does not hold");
        }
    }

    int wrong() {
        return wrong;
    }

    void end() {
        System.out.println(test + ": " + (wrong == 0 ? "all as due" : wrong + " not as due"));
        if (wrong != 0) {
            System.exit(1);
        }
    }
}
