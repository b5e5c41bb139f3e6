/** Counts and prints the answers of one test that are not the ones that are due. */
final class Due {
    private final String test;
    private String about = "";
    private int checked;
    private int wrong;

    Due(String test) {
        this.test = test;
    }

    /** What the next answers are about; it stands before each that is printed. */
    void about(String what) {
        about = what;
    }

    void is(String call, long got, long want) {
        checked++;
        if (got != want) {
            tell(call + " answered " + got + ", due is " + want);
        }
    }

    void is(String call, String got, String want) {
        checked++;
        if (!got.equals(want)) {
            tell(call + " answered \"" + got + "\", due is \"" + want + "\"");
        }
    }

    void is(String call, boolean got, boolean want) {
        is(call, got ? 1 : 0, want ? 1 : 0);
    }

    void end() {
        System.out.println(test + ": " + checked + " answers, " + wrong + " not as due");
        if (wrong != 0 || checked == 0) {
            System.exit(1);
        }
    }

    private void tell(String what) {
        wrong++;
        System.out.println(test + ": " + about + what);
    }
}
