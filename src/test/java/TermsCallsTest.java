/** Terms, CALL: what it gives, a workflow that isn't whole, the seventh in one another, and the WAYS that go on. */
public final class TermsCallsTest {
    private static final Checks checks = new Checks();

    private TermsCallsTest() {
    }

    public static void main(String[] args) {
        eachWorkflowMayBeCalled();
        zeroIfItJustEnded();
        whatIsNotWhole();
        sixInOneAnotherAndTheSeventh();
        itselfSixTimes();
        behindOneAnother();
        failingGoesOn();
        stopGoesOn();
        givingEndsTheCalledAlone();
        oneRunOneCostOneLog();
        checks.finish();
    }

    private static void eachWorkflowMayBeCalled() {
        for (int b = 0; b < 8; b++) {
            for (int a = 0; a < 8; a += 7) {
                UndoWorks works = new UndoWorks();
                new Flow(works, b).set(3, 40 + b).give(3);
                int from = (b + 1) % 8;
                checks.same("CALL of " + b, 0, new Flow(works, from).call(a, b).run());
                checks.same("NUMBER " + a, 40 + b, works.number(a));
            }
        }
    }

    private static void zeroIfItJustEnded() {
        UndoWorks works = new UndoWorks();
        checks.same("CALL of an empty one", 0, new Flow(works, 0).set(0, 5).call(0, 1).set(1, 5).call(1, 2).run());
        new Flow(works, 2).add(2, 1);
        checks.numbers("an empty one", works, 0, 0, 0);
        checks.same("CALL of one that just ends", 0, works.run(0));
        checks.numbers("one that just ends", works, 0, 0, 1);
        new Flow(works, 3).set(4, 9).mute().give(4).end();
        checks.same("CALL of one that mutes what it gives", 0, new Flow(works, 4).set(3, 5).call(3, 3).run());
        checks.same("NUMBER 3", 0, works.number(3));
        new Flow(works, 5).give(6);
        checks.same("CALL of one that gives 0", 0, new Flow(works, 7).set(5, 5).call(5, 5).run());
        checks.same("NUMBER 5", 0, works.number(5));
    }

    private static void whatIsNotWhole() {
        int[][] open = {{10}, {10, 11}, {10, 12}, {10, 11, 12}, {13}, {14}, {15}, {21}, {21, 22}, {14, 14, 16}};
        for (int[] sorts : open) {
            UndoWorks works = new UndoWorks();
            new Flow(works, 1).add(1, 1);
            for (int sort : sorts) {
                works.node(1, sort, 0, 1);
            }
            new Flow(works, 0).set(0, 5).call(0, 1).add(2, 1);
            checks.same("CALL of what isn't whole FAILS 7", 9, works.run(0));
            checks.numbers("nothing of it is done", works, 5, 0, 0);
            checks.same("COST", 2, works.count(2));
            works.node(1, 16, 0, 0);
            checks.same("CALL of what is whole now", 0, works.run(0));
            checks.numbers("all of it is done", works, 0, 1, 1);
        }
    }

    /** Workflow w, from the last down to 0, calls the one before it. */
    private static UndoWorks chain(int many) {
        UndoWorks works = new UndoWorks();
        for (int w = 0; w < many; w++) {
            Flow flow = new Flow(works, w).add(0, 1);
            if (w > 0) {
                flow.set(1, 3).call(1, w - 1).add(2, 1);
            }
        }
        return works;
    }

    private static void sixInOneAnotherAndTheSeventh() {
        for (int many = 1; many <= 6; many++) {
            UndoWorks works = chain(many);
            checks.same(many + " in one another", 0, works.run(many - 1));
            checks.numbers(many + " in one another", works, many, 0, many - 1);
        }
        UndoWorks seven = chain(7);
        checks.same("the seventh FAILS 7", 9, seven.run(6));
        checks.numbers("six are begun, the seventh isn't", seven, 6, 3, 0);
        checks.same("COST: six ADDS, six SETS, six CALLS", 18, seven.count(2));
        checks.same("behind that, six again", 0, seven.run(5));
        UndoWorks eight = chain(8);
        checks.same("of eight too", 9, eight.run(7));
        checks.numbers("six are begun", eight, 6, 3, 0);
    }

    private static void itselfSixTimes() {
        for (int w = 0; w < 8; w += 7) {
            UndoWorks works = new UndoWorks();
            new Flow(works, w).add(0, 1).tries(128).call(1, w).catches().add(2, 1).end().add(3, 1);
            checks.same("itself", 0, works.run(w));
            checks.numbers("six in one another, the seventh is caught once", works, 6, 0, 1, 6, 0, 0, 0, 7);
        }
    }

    private static void behindOneAnother() {
        UndoWorks works = new UndoWorks();
        new Flow(works, 1).add(0, 1).call(2, 2);
        new Flow(works, 2).add(1, 1);
        checks.same("many CALLS behind one another", 0, new Flow(works, 0).loop(9).call(2, 1).end().call(2, 2).call(2, 1).run());
        checks.numbers("many CALLS behind one another", works, 10, 11);
        UndoWorks failing = chain(7);
        new Flow(failing, 7).mute().call(7, 5).end().mute().call(7, 4).end();
        checks.same("behind a seventh that FAILED", 0, failing.run(7));
        checks.numbers("the CALL that FAILED, then six", failing, 6 - 1 + 5, 0, 4);
    }

    private static void failingGoesOn() {
        for (int kind = 0; kind <= 9; kind++) {
            UndoWorks works = new UndoWorks();
            new Flow(works, 1).set(1, 4).fail(kind);
            checks.same("FAILING " + kind + " goes on", 2 + kind, new Flow(works, 0).set(0, 5).call(0, 1).add(2, 1).run());
            checks.numbers("NUMBER a is what it was", works, 5, 4, 0);
        }
    }

    private static void stopGoesOn() {
        UndoWorks works = new UndoWorks();
        new Flow(works, 1).set(1, 4).burn(60);
        checks.same("STOP goes on", -1, new Flow(works, 0).set(0, 5).call(0, 1).add(2, 1).run());
        checks.numbers("NUMBER a is what it was", works, 5, 4, 0);
    }

    private static void givingEndsTheCalledAlone() {
        UndoWorks works = new UndoWorks();
        new Flow(works, 1).set(1, 8).loop(3).scope().give(1).end().end().add(3, 1);
        checks.same("the caller goes on", 0, new Flow(works, 0).loop(2).call(0, 1).add(2, 1).end().run());
        checks.numbers("the caller goes on", works, 8, 8, 2, 0);
        checks.same("the run gave nothing", 0, works.given());
    }

    private static void oneRunOneCostOneLog() {
        UndoWorks works = new UndoWorks();
        new Flow(works, 1).set(0, 2).note(0);
        new Flow(works, 0).set(0, 1).note(0).call(1, 1).note(0).run();
        checks.log("one LOG", works, 1, 2, 2);
        checks.same("one COST", 6, works.count(2));
        checks.same("one run", 1, works.count(6));
    }
}
