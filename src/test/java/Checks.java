/** Counts the answers that are not as due, prints each, and ends the test with exit code 1 if there was one. */
final class Checks {
    private int made = 0;
    private int wrong = 0;

    void same(String what, long want, long got) {
        made++;
        if (want != got) {
            tell(what + " answered " + got + ", due is " + want);
        }
    }

    void bad(String what, Runnable call) {
        made++;
        String got = thrownBy(call);
        if (!got.equals("java.lang.IllegalArgumentException")) {
            tell(what + ": " + got + ", due is IllegalArgumentException");
        }
    }

    void refused(String what, Runnable call) {
        made++;
        String got = thrownBy(call);
        if (!got.equals("java.lang.IllegalStateException")) {
            tell(what + ": " + got + ", due is IllegalStateException");
        }
    }

    void holds(String what, boolean right) {
        made++;
        if (!right) {
            tell(what + " does not hold");
        }
    }

    void numbers(String what, UndoWorks works, int... want) {
        for (int i = 0; i < want.length; i++) {
            same(what + ", number(" + i + ")", want[i], works.number(i));
        }
    }

    void row(String what, UndoWorks works, int... want) {
        same(what + ", places", want.length, works.count(0));
        for (int i = 0; i < Math.min(want.length, works.count(0)); i++) {
            same(what + ", row(" + i + ")", want[i], works.row(i));
        }
    }

    void log(String what, UndoWorks works, int... want) {
        same(what + ", notes", want.length, works.count(1));
        for (int i = 0; i < Math.min(want.length, works.count(1)); i++) {
            same(what + ", log(" + i + ")", want[i], works.log(i));
        }
    }

    void finish() {
        System.out.println(made + " checks, " + wrong + " wrong");
        if (wrong != 0 || made == 0) {
            System.exit(1);
        }
    }

    private void tell(String text) {
        wrong++;
        System.out.println(text);
    }

    private static String thrownBy(Runnable call) {
        try {
            call.run();
            return "nothing thrown";
        } catch (Throwable thrown) {
            return thrown.getClass().getName();
        }
    }
}
