/** Promise 4: COST, STOP, and the deepest runs there are. */
public final class Promise4CostTest {
    private static final Checks checks = new Checks();

    private Promise4CostTest() {
    }

    public static void main(String[] args) {
        partsCostNothing();
        sixtyIsNotTooMuch();
        stopsBeforeANode();
        stopsBeforeARound();
        beginsAnewWithEachRun();
        deepest();
        checks.finish();
    }

    private static void partsCostNothing() {
        UndoWorks works = new UndoWorks();
        new Flow(works, 0).tries(2).fail(1).catches().ends().end().run();
        checks.same("TRY, FAIL", 2, works.count(2));
        works.clear(0);
        new Flow(works, 0).when(0).otherwise().end().scope().end().mute().end().keep().run();
        checks.same("IF, SCOPE, MUTE, KEEP", 4, works.count(2));
        works.clear(0);
        new Flow(works, 0).loop(0).end().loop(5).end().run();
        checks.same("two LOOPS, five rounds", 7, works.count(2));
        works.clear(0);
        new Flow(works, 0).loop(5).leave(0).end().loop(2).next(0).end().run();
        checks.same("two LOOPS, three rounds, BREAK, twice NEXT", 8, works.count(2));
        works.clear(0);
        new Flow(works, 0).divide(0, 0).note(0).run();
        checks.same("what FAILS is begun", 1, works.count(2));
    }

    private static void sixtyIsNotTooMuch() {
        UndoWorks works = new UndoWorks();
        Flow flow = new Flow(works, 0);
        for (int i = 0; i < 60; i++) {
            flow.add(0, 1);
        }
        checks.same("sixty NODES", 0, flow.run());
        checks.same("COST", 60, works.count(2));
        checks.numbers("sixty", works, 60);
        new Flow(works, 1).call(1, 0).add(2, 1);
        checks.same("one CALL more", -1, works.run(1));
        checks.same("COST", 60, works.count(2));
        checks.numbers("fifty-nine more", works, 119, 0, 0);
    }

    private static void stopsBeforeANode() {
        UndoWorks works = new UndoWorks();
        new Flow(works, 0).loop(9).add(0, 1).add(0, 1).add(0, 1).add(0, 1).add(0, 1).end().note(0).note(0).note(0).note(0).note(0).add(1, 1);
        checks.same("54 in the LOOP, 1 it itself, 5 NOTES, then STOP", -1, works.run(0));
        checks.numbers("the 61st isn't done", works, 45, 0);
        checks.log("the 60th is", works, 45, 45, 45, 45, 45);
        checks.same("COST", 60, works.count(2));
        checks.same("given", 0, works.given());
    }

    private static void stopsBeforeARound() {
        UndoWorks works = new UndoWorks();
        Flow flow = new Flow(works, 0);
        for (int i = 0; i < 54; i++) {
            flow.add(0, 1);
        }
        flow.loop(5).end();
        checks.same("54 and a LOOP with five rounds", 0, flow.run());
        checks.same("COST", 60, works.count(2));
        works.clear(0);
        for (int i = 0; i < 54; i++) {
            flow.add(0, 1);
        }
        flow.loop(6).end();
        checks.same("a sixth round", -1, flow.run());
        checks.same("COST", 60, works.count(2));
    }

    private static void beginsAnewWithEachRun() {
        UndoWorks works = new UndoWorks();
        new Flow(works, 0).loop(9).add(0, 1).add(0, 1).add(0, 1).end();
        for (int i = 0; i < 3; i++) {
            checks.same("run", 0, works.run(0));
            checks.same("COST", 37, works.count(2));
        }
        works.clear(0);
        works.run(0);
        checks.same("COST of nothing", 0, works.count(2));
    }

    /** As many blocks in one another and in what they call as COST allows: no call may run out of the machine's stack. */
    private static void deepest() {
        UndoWorks works = new UndoWorks();
        for (int w = 0; w < 6; w++) {
            Flow flow = new Flow(works, w);
            for (int i = 0; i < 10; i++) {
                flow.scope();
            }
            flow.call(0, w + 1);
            for (int i = 0; i < 10; i++) {
                flow.end();
            }
        }
        checks.same("six with ten blocks each", -1, works.run(0));
        checks.same("COST", 60, works.count(2));
        works.clear(0);
        new Flow(works, 0).call(0, 1);
        checks.same("five with ten and one: the CALL of the seventh FAILS", 9, works.run(0));
        checks.same("COST", 56, works.count(2));
        everythingInOneScope();
    }

    private static void everythingInOneScope() {
        UndoWorks works = new UndoWorks();
        Flow flow = new Flow(works, 0).scope();
        for (int i = 0; i < 57; i++) {
            flow.make(0);
        }
        flow.fail(3).end();
        checks.same("57 MAKES", 5, flow.run());
        checks.row("57 MAKES undone", works, 0, 0, 0, 0, 0, 0, 0, 0);
        checks.same("undone", 57, works.count(4));
        new Flow(works, 1).scope().make(0).call(0, 2).fail(0).end();
        Flow called = new Flow(works, 2);
        for (int i = 0; i < 56; i++) {
            called.hold(1, 1);
        }
        checks.same("a MAKE and 56 HOLDS", 2, works.run(1));
        checks.same("COST", 60, works.count(2));
        checks.same("undone", 114, works.count(4));
        checks.same("SLOT 1", 0, works.count(11));
    }
}
