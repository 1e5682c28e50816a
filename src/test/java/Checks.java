/** Counts the answers that are not as due, prints each, and ends the test with exit code 1 if there was one. */
final class Checks {
    private int made = 0;
    private int wrong = 0;

    void same(String what, long want, long got) {
        made++;
        if (want != got) {
            tell(what + " answered " + got + ", due is " + want);
        }
    }

    void bad(String what, Runnable call) {
        made++;
        String got = thrownBy(call);
        if (!got.equals("java.lang.IllegalArgumentException")) {
            tell(what + ": " + got + ", due is IllegalArgumentException");
        }
    }

    void refused(String what, Runnable call) {
        made++;
        String got = thrownBy(call);
        if (!got.equals("java.lang.IllegalStateException")) {
            tell(what + ": " + got + ", due is IllegalStateException");
        }
    }

    void holds(String what, boolean right) {
        made++;
        if (!right) {
            tell(what + " does not hold");
        }
    }

    void badAndChangesNothing(String what, UndoWorks works, Runnable call) {
        String before = allOf(works);
        bad(what, call);
        holds(what + ": it changes nothing", before.equals(allOf(works)));
    }

    void refusedAndChangesNothing(String what, UndoWorks works, Runnable call) {
        String before = allOf(works);
        refused(what, call);
        holds(what + ": it changes nothing", before.equals(allOf(works)));
    }

    /** All that can be seen of an object without a run. */
    static String allOf(UndoWorks works) {
        StringBuilder all = new StringBuilder("given " + works.given());
        for (int what : new int[] {0, 1, 2, 3, 4, 5, 6, 10, 11, 12, 13}) {
            all.append(", count(").append(what).append(") ").append(works.count(what));
        }
        for (int i = 0; i < 8; i++) {
            all.append(", number(").append(i).append(") ").append(works.number(i));
        }
        for (int i = 0; i < works.count(0); i++) {
            all.append(", row(").append(i).append(") ").append(works.row(i));
        }
        for (int i = 0; i < works.count(1); i++) {
            all.append(", log(").append(i).append(") ").append(works.log(i));
        }
        return all.toString();
    }

    void numbers(String what, UndoWorks works, int... want) {
        for (int i = 0; i < want.length; i++) {
            same(what + ", number(" + i + ")", want[i], works.number(i));
        }
    }

    void row(String what, UndoWorks works, int... want) {
        same(what + ", places", want.length, works.count(0));
        for (int i = 0; i < Math.min(want.length, works.count(0)); i++) {
            same(what + ", row(" + i + ")", want[i], works.row(i));
        }
    }

    void log(String what, UndoWorks works, int... want) {
        same(what + ", notes", want.length, works.count(1));
        for (int i = 0; i < Math.min(want.length, works.count(1)); i++) {
            same(what + ", log(" + i + ")", want[i], works.log(i));
        }
    }

    void finish() {
        System.out.println(made + " checks, " + wrong + " wrong");
        if (wrong != 0 || made == 0) {
            System.exit(1);
        }
    }

    private void tell(String text) {
        wrong++;
        System.out.println(text);
    }

    private static String thrownBy(Runnable call) {
        try {
            call.run();
            return "nothing thrown";
        } catch (Throwable thrown) {
            return thrown.getClass().getName();
        }
    }
}
