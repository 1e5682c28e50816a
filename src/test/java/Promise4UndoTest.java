/** Promise 4: what a SCOPE undoes, keeps, and loses. */
public final class Promise4UndoTest {
    private static final Checks checks = new Checks();

    private Promise4UndoTest() {
    }

    public static void main(String[] args) {
        eachStep();
        whatIsNotUndone();
        latestFirst();
        onlyByFailing();
        becomesTheOuters();
        keeps();
        calledThere();
        loses();
        stepsThatFailed();
        slotsHaveWhatTheyHad();
        rowIsTheOneBefore();
        scopesBehindOneAnother();
        manyRuns();
        checks.finish();
    }

    private static void eachStep() {
        UndoWorks works = new UndoWorks();
        new Flow(works, 0).set(0, 10).set(1, 20).set(2, 30).set(3, 4).write(3, 2).hold(0, 2).run();
        checks.same("it FAILS so", 11, new Flow(works, 1).scope()
            .add(0, 5).set(1, 6).divide(2, 3).write(3, 0).make(3).hold(0, 1).hold(1, 2).fail(9).end().add(7, 1).run());
        checks.numbers("undone", works, 10, 20, 30, 4, 0, 0, 0, 0);
        checks.row("undone", works, 0, 0, 0, 0, 30, 0, 0, 0);
        checks.same("SLOT 0", 2, works.count(10));
        checks.same("SLOT 1", 0, works.count(11));
        checks.same("undone", 7, works.count(4));
        checks.same("LOST", 0, works.count(3));
        works.run(1);
        checks.same("undone in all runs", 14, works.count(4));
    }

    private static void whatIsNotUndone() {
        UndoWorks works = new UndoWorks();
        new Flow(works, 0).set(1, 3).set(5, 9).write(1, 5).hold(0, 1).use(0).run();
        new Flow(works, 2).give(5);
        checks.same("FAILS", 2, new Flow(works, 1).scope().note(5).read(0, 1).use(0).call(4, 2)
            .tries(1023).fail(6).catches().end().fail(0).end().run());
        checks.numbers("READ, CALL and what is caught stay", works, 9, 3, 0, 0, 9, 9, 0, 6);
        checks.log("LOG stays", works, 9, 2);
        checks.same("undone", 0, works.count(4));
        checks.same("USE", 0, new Flow(works, 3).use(0).run());
        checks.log("the COUNTER stays", works, 3);
    }

    private static void latestFirst() {
        UndoWorks works = new UndoWorks();
        new Flow(works, 0).set(0, 100).scope().add(0, 1).set(0, 50).add(0, 7).divide(0, 1).fail(0).end();
        checks.same("by 0", 3, works.run(0));
        checks.numbers("SET's before is put back behind ADD's", works, 100);
        works.clear(0);
        new Flow(works, 0).set(1, 7).set(0, 3).write(0, 1).scope().add(0, 5).read(0, 0).fail(1).end();
        checks.same("READ's FAIL", 4, works.run(0));
        checks.numbers("ADD gets less", works, 3);
        works.clear(0);
        new Flow(works, 0).scope().add(0, 5).read(0, 2).fail(1).end();
        checks.same("FAILS", 3, works.run(0));
        checks.numbers("ADD gets less, not what it was", works, -5);
        works.clear(0);
        new Flow(works, 0).set(0, Integer.MIN_VALUE).scope().add(0, Integer.MIN_VALUE).fail(1).end().run();
        checks.numbers("ADD wraps, and back", works, Integer.MIN_VALUE);
    }

    private static void onlyByFailing() {
        UndoWorks works = new UndoWorks();
        checks.same("going on", 0, new Flow(works, 0).scope().add(0, 1).end().run());
        checks.same("giving", 1, new Flow(works, 1).scope().add(0, 1).give(0).end().run());
        checks.same("leaving", 0, new Flow(works, 2).loop(2).scope().add(0, 1).leave(0).end().end().run());
        checks.same("next rounds", 0, new Flow(works, 3).loop(2).scope().add(0, 1).next(0).end().end().run());
        checks.same("STOP", -1, new Flow(works, 4).scope().add(0, 1).loop(9).loop(9).end().end().end().run());
        checks.same("caught in it", 0, new Flow(works, 5).scope().add(0, 1).tries(1023).add(0, 1).fail(3).catches().end().end().run());
        checks.same("muted in it", 0, new Flow(works, 6).scope().mute().add(0, 1).fail(3).end().end().run());
        checks.numbers("not undone", works, 9);
        checks.same("undone", 0, works.count(4));
        checks.same("caught around it", 0, new Flow(works, 7).tries(1023).scope().add(0, 1).fail(3).end().catches().note(0).ends().add(1, 1).end().run());
        checks.log("undone before the CATCH", works, 9);
        checks.same("undone", 1, works.count(4));
    }

    private static void becomesTheOuters() {
        UndoWorks works = new UndoWorks();
        checks.same("FAILS", 5, new Flow(works, 0).set(0, 1).scope().add(0, 2).scope().set(0, 9).end().add(0, 4).fail(3).end().run());
        checks.numbers("the inner's too", works, 1);
        checks.same("undone", 3, works.count(4));
        new Flow(works, 1).scope().loop(3).scope().add(1, 1).leave(0).end().end().loop(2).scope().add(1, 1).next(0).end().end().fail(3).end().run();
        checks.numbers("what left became the outer's", works, 1, 0);
        checks.same("undone", 6, works.count(4));
        new Flow(works, 2).scope().tries(0).scope().add(2, 1).give(2).end().ends().fail(4).end().end().run();
        checks.numbers("what gave became the outer's", works, 1, 0, 0);
        checks.same("undone", 7, works.count(4));
        new Flow(works, 3).scope().add(3, 1).mute().scope().add(3, 2).fail(1).end().end().add(3, 4).end().run();
        checks.numbers("the inner alone", works, 1, 0, 0, 5);
        checks.same("undone", 8, works.count(4));
        new Flow(works, 4).scope().add(4, 1).scope().add(4, 2).fail(1).end().end().run();
        checks.numbers("first the inner, then the outer", works, 1, 0, 0, 5, 0);
        checks.same("undone, each once", 10, works.count(4));
    }

    private static void keeps() {
        UndoWorks works = new UndoWorks();
        new Flow(works, 0).scope().add(0, 1).keep().add(1, 1).fail(1).end().run();
        checks.numbers("KEEP", works, 1, 0);
        new Flow(works, 1).scope().add(0, 1).scope().add(1, 1).keep().add(2, 1).end().add(3, 1).fail(1).end().run();
        checks.numbers("KEEP in the inner", works, 1, 1, 0, 0);
        new Flow(works, 2).scope().scope().add(4, 1).end().keep().add(5, 1).fail(1).end().run();
        checks.numbers("KEEP of what became the outer's", works, 1, 1, 0, 0, 1, 0);
        new Flow(works, 3).keep().add(6, 1).scope().add(6, 1).fail(1).end().run();
        checks.numbers("KEEP in no SCOPE", works, 1, 1, 0, 0, 1, 0, 1);
        checks.same("undone", 6, works.count(4));
        new Flow(works, 4).scope().add(2, 1).keep().keep().fail(2).end().run();
        checks.same("KEEP twice", 1, works.number(2));
        new Flow(works, 5).scope().loop(3).add(3, 1).when(7).otherwise().keep().set(7, 1).end().end().fail(2).end().run();
        checks.numbers("KEEP in a LOOP and an IF", works, 1, 1, 1, 1, 1, 0, 1, 0);
        checks.same("undone", 9, works.count(4));
    }

    private static void calledThere() {
        UndoWorks works = new UndoWorks();
        new Flow(works, 1).add(0, 3).give(0);
        new Flow(works, 0).scope().call(1, 1).fail(4).end().run();
        checks.numbers("what was called is undone", works, 0, 3);
        checks.same("undone", 1, works.count(4));
        new Flow(works, 2).add(0, 3).fail(2);
        checks.same("FAILING there", 4, new Flow(works, 3).scope().call(1, 2).end().run());
        checks.numbers("FAILING there", works, 0, 3);
        new Flow(works, 4).add(0, 3).keep().add(0, 5);
        checks.same("KEEP there", 6, new Flow(works, 5).scope().add(2, 1).call(1, 4).fail(4).end().run());
        checks.numbers("KEEP there is of the innermost SCOPE", works, 3, 0, 1);
        new Flow(works, 6).scope().add(3, 3).end();
        new Flow(works, 7).scope().call(1, 6).fail(4).end().run();
        checks.numbers("a SCOPE there becomes the one's around", works, 3, 0, 1, 0);
        checks.same("undone", 4, works.count(4));
    }

    private static void loses() {
        UndoWorks works = new UndoWorks();
        new Flow(works, 0).set(0, 5).set(1, 2).set(2, 77).run();
        new Flow(works, 1).scope().write(0, 2).write(1, 2).scope().set(3, 4).make(3).keep().end().add(4, 1).fail(1).end();
        checks.same("it FAILS so", 3, works.run(1));
        checks.row("the ROW that was kept", works, 0, 0, 0, 0);
        checks.numbers("the others are undone", works, 5, 2, 77, 4, 0);
        checks.same("LOST: place 5", 1, works.count(3));
        checks.same("undone: ADD and place 2", 2, works.count(4));
        new Flow(works, 2).set(1, 3).set(5, 1).write(5, 1).make(3)
            .set(6, 3).set(2, 9).write(5, 2).write(6, 2).scope().write(5, 1).write(6, 1).scope().set(6, 6).make(6).write(5, 2).keep().end().fail(1).end();
        checks.same("it FAILS so", 3, works.run(2));
        checks.row("what it was is put in the ROW of then", works, 0, 9, 0, 9, 0, 0);
        checks.same("LOST still", 1, works.count(3));
        works.clear(1);
        new Flow(works, 1).set(0, 0).set(1, 1).set(3, 1)
            .scope().write(0, 2).write(1, 2).scope().make(4).keep().end().fail(1).end();
        works.run(1);
        checks.row("no places", works);
        checks.same("LOST in all runs", 3, works.count(3));
        new Flow(works, 3).scope().set(0, 1).make(0).set(0, 0).write(0, 2).make(0).fail(1).end().run();
        checks.same("nothing is LOST where MAKE is undone first", 3, works.count(3));
        checks.row("no places again", works);
    }

    private static void stepsThatFailed() {
        UndoWorks works = new UndoWorks();
        checks.same("DIVIDE", 3, new Flow(works, 0).scope().divide(0, 1).end().run());
        checks.same("WRITE", 4, new Flow(works, 1).set(0, 8).scope().write(0, 1).end().run());
        checks.same("MAKE below", 5, new Flow(works, 2).set(0, -1).scope().make(0).end().run());
        checks.same("MAKE above", 6, new Flow(works, 3).set(0, 17).scope().make(0).end().run());
        checks.same("nothing was done, nothing is undone", 0, works.count(4));
        checks.same("what changes nothing is done all the same", 2,
            new Flow(works, 4).scope().add(1, 0).set(1, 0).hold(0, 0).fail(0).end().run());
        checks.same("undone", 3, works.count(4));
    }

    private static void slotsHaveWhatTheyHad() {
        UndoWorks works = new UndoWorks();
        new Flow(works, 0).hold(0, 1).use(0).use(0).run();
        new Flow(works, 1).scope().use(0).hold(0, 1).use(0).hold(0, 2).hold(0, 0).fail(1).end().run();
        checks.log("USE", works, 3, 1);
        checks.same("SLOT 0", 1, works.count(10));
        new Flow(works, 2).use(0).run();
        checks.log("the COUNTER of before, with its USE", works, 4);
    }

    private static void rowIsTheOneBefore() {
        UndoWorks works = new UndoWorks();
        new Flow(works, 0).set(0, 1).set(1, 2).write(0, 0).write(1, 1).run();
        new Flow(works, 1).scope().write(0, 1).make(1).write(0, 0).make(0).write(2, 0).make(2).fail(1).end().run();
        checks.row("three ROWS back", works, 0, 1, 2, 0, 0, 0, 0, 0);
        checks.same("undone", 6, works.count(4));
        new Flow(works, 2).scope().write(2, 1).scope().make(1).keep().make(0).end().make(2).fail(1).end().run();
        checks.row("back to the ROW that was kept", works, 0, 0);
        new Flow(works, 3).scope().make(0).scope().make(1).keep().end().fail(1).end().run();
        checks.row("the one before MAKE, whatever ROW was kept since", works, 0, 0);
        checks.same("LOST", 0, works.count(3));
    }

    private static void scopesBehindOneAnother() {
        UndoWorks works = new UndoWorks();
        new Flow(works, 0).scope().add(0, 1).end().scope().add(1, 1).fail(1).end().run();
        checks.numbers("the second alone", works, 1, 0);
        new Flow(works, 1).add(2, 1).scope().add(3, 1).end().add(2, 1).fail(1).run();
        checks.numbers("outside of SCOPES nothing is undone", works, 1, 0, 2, 1);
        new Flow(works, 2).scope().add(4, 1).loop(9).loop(9).end().end().end().run();
        new Flow(works, 3).scope().add(5, 1).fail(1).end().run();
        checks.numbers("a run behind one that ended by STOP", works, 1, 0, 2, 1, 1, 0);
        checks.same("undone", 2, works.count(4));
        new Flow(works, 4).loop(6).scope().add(6, 1).add(6, 1).end().end().mute().scope().add(7, 1).fail(1).end().end();
        checks.same("many SCOPES", 0, works.run(4));
        checks.numbers("many SCOPES", works, 1, 0, 2, 1, 1, 0, 12, 0);
    }

    private static void manyRuns() {
        UndoWorks works = new UndoWorks();
        new Flow(works, 0).loop(9).add(0, 1).make(1).hold(0, 1).end().scope().add(0, 1).end().add(0, 1);
        new Flow(works, 1).scope().add(0, 5).fail(1).end();
        for (int i = 0; i < 50; i++) {
            checks.same("run without FAILING", 0, works.run(0));
            checks.same("run with FAILING", 3, works.run(1));
        }
        checks.numbers("many runs", works, 550);
        checks.same("undone in many runs", 50, works.count(4));
    }
}
