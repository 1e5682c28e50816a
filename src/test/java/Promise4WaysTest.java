/** Promise 4: what the WAYS to end mean when they meet. */
public final class Promise4WaysTest {
    private static final Checks checks = new Checks();

    private Promise4WaysTest() {
    }

    public static void main(String[] args) {
        blockEndsWithTheFirst();
        caughtByItsBit();
        catchsOwnWay();
        finalAlwaysComes();
        finalsWayInstead();
        loops();
        loopsByNumber();
        mutes();
        givesWhatItWas();
        calls();
        callsInOneAnother();
        checks.finish();
    }

    private static void blockEndsWithTheFirst() {
        UndoWorks works = new UndoWorks();
        checks.same("FAIL", 3, new Flow(works, 0).add(0, 1).fail(1).add(0, 1).fail(2).run());
        checks.numbers("FAIL", works, 1);
        checks.same("GIVE", 1, new Flow(works, 1).add(0, 1).give(0).add(0, 1).fail(2).run());
        checks.numbers("GIVE", works, 2);
    }

    private static void caughtByItsBit() {
        for (int kind = 0; kind <= 9; kind++) {
            UndoWorks works = new UndoWorks();
            new Flow(works, 0).set(7, -5).tries(1 << kind).fail(kind).catches().add(0, 1).end().add(1, 1);
            checks.same("the bit of " + kind, 0, works.run(0));
            checks.numbers("the bit of " + kind, works, 1, 1, 0, 0, 0, 0, 0, kind);
            new Flow(works, 1).set(7, -5).tries(1023 - (1 << kind)).fail(kind).catches().add(0, 1).end().add(1, 1);
            checks.same("all bits but that of " + kind, 2 + kind, works.run(1));
            checks.numbers("all bits but that of " + kind, works, 1, 1, 0, 0, 0, 0, 0, -5);
        }
        UndoWorks works = new UndoWorks();
        checks.same("no CATCH", 5, new Flow(works, 0).tries(1023).fail(3).end().run());
        checks.same("no CATCH but a FINAL", 5, new Flow(works, 1).tries(1023).fail(3).ends().add(0, 1).end().run());
        checks.numbers("NUMBER 7 without CATCH", works, 1, 0, 0, 0, 0, 0, 0, 0);
        checks.same("nothing FAILS", 0, new Flow(works, 2).tries(1023).add(1, 1).catches().add(2, 1).end().run());
        checks.same("GIVE isn't caught", 1, new Flow(works, 3).tries(1023).give(1).catches().add(2, 1).end().run());
        checks.numbers("nothing to catch", works, 1, 1, 0, 0, 0, 0, 0, 0);
        checks.same("an outer CATCH", 0, new Flow(works, 4).tries(4).tries(2).fail(2).catches().add(3, 1).end().catches().add(4, 1).end().run());
        checks.numbers("an outer CATCH", works, 1, 1, 0, 0, 1, 0, 0, 2);
    }

    private static void catchsOwnWay() {
        UndoWorks works = new UndoWorks();
        checks.same("CATCH FAILS", 6, new Flow(works, 0).tries(1023).fail(1).catches().fail(4).ends().add(0, 1).end().run());
        checks.numbers("CATCH FAILS", works, 1, 0, 0, 0, 0, 0, 0, 1);
        checks.same("CATCH gives", 1, new Flow(works, 1).tries(1023).fail(3).catches().give(7).end().run());
        checks.same("CATCH gives the kind", 3, works.given());
        checks.same("CATCH is left", 0, new Flow(works, 2).loop(5).tries(1023).fail(3).catches().leave(0).ends().add(1, 1).end().end().run());
        checks.numbers("CATCH is left", works, 1, 1);
    }

    private static void finalAlwaysComes() {
        UndoWorks works = new UndoWorks();
        checks.same("going on", 0, new Flow(works, 0).tries(0).ends().add(0, 1).end().add(1, 1).run());
        checks.same("giving", 1, new Flow(works, 1).set(2, 9).tries(0).give(2).ends().add(0, 1).end().add(1, 1).run());
        checks.same("given", 9, works.given());
        checks.same("FAILING", 2, new Flow(works, 2).tries(0).fail(0).catches().ends().add(0, 1).end().add(1, 1).run());
        checks.same("leaving", 0, new Flow(works, 3).loop(3).tries(0).leave(0).ends().add(0, 1).end().add(1, 1).end().run());
        checks.same("next rounds", 0, new Flow(works, 4).loop(3).tries(0).next(0).ends().add(0, 1).end().add(1, 1).end().run());
        checks.numbers("FINALS", works, 7, 1);
        checks.same("two of them, the inner first", 4,
            new Flow(works, 5).tries(0).tries(0).fail(2).ends().note(0).end().ends().note(1).end().run());
        checks.log("two of them", works, 7, 1);
        stopComesWithoutFinal(works);
    }

    private static void stopComesWithoutFinal(UndoWorks works) {
        works.clear(6);
        new Flow(works, 6).tries(1023).loop(9).loop(9).end().end().catches().add(4, 1).ends().add(4, 1).end().run();
        checks.same("STOP", -1, works.run(6));
        checks.numbers("no FINAL by STOP", works, 7, 1, 9, 0, 0);
        works.clear(6);
        new Flow(works, 6).tries(0).add(5, 1).ends().loop(9).loop(9).end().end().end().add(5, 1);
        checks.same("STOP in a FINAL", -1, works.run(6));
        checks.same("NUMBER 5", 1, works.number(5));
        works.clear(6);
        new Flow(works, 6).tries(1023).fail(1).catches().loop(9).loop(9).end().end().ends().add(5, 1).end();
        checks.same("STOP in a CATCH", -1, works.run(6));
        checks.same("NUMBER 5 still", 1, works.number(5));
    }

    private static void finalsWayInstead() {
        UndoWorks works = new UndoWorks();
        checks.same("FAILING instead of giving", 5, new Flow(works, 0).set(0, 4).tries(0).give(0).ends().fail(3).end().run());
        checks.same("given", 0, works.given());
        checks.same("giving instead of FAILING", 1, new Flow(works, 1).tries(0).fail(3).ends().give(0).end().run());
        checks.same("given", 4, works.given());
        checks.same("giving instead of giving", 1, new Flow(works, 2).set(1, 6).tries(0).give(0).ends().give(1).end().run());
        checks.same("given", 6, works.given());
        checks.same("leaving instead of FAILING", 0, new Flow(works, 3).loop(4).add(2, 1).tries(0).fail(3).ends().leave(0).end().end().run());
        checks.same("next rounds instead of giving", 0, new Flow(works, 4).loop(4).add(3, 1).tries(0).give(0).ends().next(0).end().end().run());
        checks.same("given", 0, works.given());
        checks.same("FAILING instead of leaving", 9, new Flow(works, 5).loop(4).add(4, 1).tries(0).leave(0).ends().fail(7).end().end().run());
        checks.numbers("rounds", works, 4, 6, 1, 4, 1);
        checks.same("FAILING otherwise", 3, new Flow(works, 6).tries(1023).fail(5).catches().fail(6).ends().fail(1).end().run());
        checks.same("a FINAL's FAILING isn't for its own CATCH", 7, new Flow(works, 7).tries(1023).catches().add(5, 1).ends().fail(5).end().run());
        checks.same("NUMBER 5", 0, works.number(5));
    }

    private static void loops() {
        UndoWorks works = new UndoWorks();
        checks.same("rounds", 0, new Flow(works, 0).loop(0).add(0, 1).end().loop(1).add(1, 1).end().loop(9).add(2, 1).end().run());
        checks.numbers("rounds", works, 0, 1, 9);
        new Flow(works, 1).loop(5).add(3, 1).leave(0).add(4, 1).end().add(5, 1).run();
        checks.numbers("leaving", works, 0, 1, 9, 1, 0, 1);
        new Flow(works, 2).loop(5).add(3, 1).next(0).add(4, 1).end().add(5, 1).run();
        checks.numbers("next rounds", works, 0, 1, 9, 6, 0, 2);
        checks.same("FAILING in a LOOP", 3, new Flow(works, 3).loop(5).add(6, 1).fail(1).end().run());
        checks.same("giving in a LOOP", 1, new Flow(works, 4).loop(5).add(6, 1).give(6).end().run());
        checks.same("given in a LOOP", 2, works.given());
        checks.same("NUMBER 6", 2, works.number(6));
        checks.same("giving 0 in a LOOP", 1, new Flow(works, 5).loop(5).add(6, 1).give(7).end().run());
        checks.same("NUMBER 6", 3, works.number(6));
    }

    private static void loopsByNumber() {
        UndoWorks works = new UndoWorks();
        new Flow(works, 0).loop(3).add(0, 1).loop(3).add(1, 1).loop(3).add(2, 1).leave(1).end().add(3, 1).end().add(4, 1).end().add(5, 1).run();
        checks.numbers("leaving number 1", works, 3, 3, 3, 0, 3, 1);
        works.clear(0);
        new Flow(works, 0).loop(3).add(0, 1).loop(3).add(1, 1).loop(3).add(2, 1).leave(2).end().add(3, 1).end().add(4, 1).end().add(5, 1).run();
        checks.numbers("leaving number 2", works, 4, 4, 4, 0, 3, 2);
        works.clear(0);
        new Flow(works, 0).loop(3).add(0, 1).loop(3).add(1, 1).loop(3).add(2, 1).next(2).end().add(3, 1).end().add(4, 1).end().add(5, 1).run();
        checks.numbers("next round of number 2", works, 7, 7, 7, 0, 3, 3);
        works.clear(0);
        new Flow(works, 0).loop(2).add(0, 1).loop(2).add(1, 1).loop(3).add(2, 1).next(1).end().add(3, 1).end().add(4, 1).end().add(5, 1).run();
        checks.numbers("next round of number 1", works, 9, 11, 11, 0, 5, 4);
        works.clear(0);
        Flow ten = new Flow(works, 0);
        for (int i = 0; i < 10; i++) {
            ten.loop(2);
        }
        ten.leave(9);
        for (int i = 0; i < 10; i++) {
            ten.end();
        }
        checks.same("leaving number 9", 0, ten.add(6, 1).run());
        checks.same("COST of leaving number 9", 22, works.count(2));
        checks.same("NUMBER 6", 1, works.number(6));
    }

    private static void mutes() {
        UndoWorks works = new UndoWorks();
        checks.same("FAILING", 0, new Flow(works, 0).mute().fail(9).add(0, 1).end().add(1, 1).run());
        checks.same("giving", 0, new Flow(works, 1).set(5, 8).mute().give(5).end().add(1, 1).run());
        checks.same("nothing is given", 0, works.given());
        checks.same("leaving", 0, new Flow(works, 2).loop(3).mute().leave(0).end().add(2, 1).end().run());
        checks.same("next rounds", 0, new Flow(works, 3).loop(3).mute().next(0).end().add(2, 1).end().run());
        checks.numbers("MUTE", works, 0, 2, 6);
        checks.same("going on", 0, new Flow(works, 4).mute().add(3, 1).end().run());
        checks.same("NUMBER 3", 1, works.number(3));
        checks.same("STOP isn't muted", -1, new Flow(works, 5).mute().loop(9).loop(9).end().end().end().run());
        checks.same("muted before a CATCH", 0, new Flow(works, 6).tries(1023).mute().fail(4).end().catches().add(4, 1).end().run());
        checks.numbers("muted before a CATCH", works, 0, 2, 6, 1, 0, 8, 0, 0);
    }

    private static void givesWhatItWas() {
        UndoWorks works = new UndoWorks();
        checks.same("GIVE", 1, new Flow(works, 0).set(0, 5).tries(0).give(0).ends().set(0, 6).end().run());
        checks.same("given is what it was", 5, works.given());
        checks.numbers("FINAL's SET", works, 6);
        new Flow(works, 1).set(0, Integer.MIN_VALUE).give(0).run();
        checks.same("given", Integer.MIN_VALUE, works.given());
    }

    private static void calls() {
        UndoWorks works = new UndoWorks();
        new Flow(works, 1).add(0, 1).set(6, -3).give(6);
        new Flow(works, 2).add(0, 1);
        new Flow(works, 3).fail(8);
        new Flow(works, 4).tries(0);
        checks.same("CALL", 0, new Flow(works, 0).set(1, 7).set(2, 7).set(3, 7).call(1, 1).call(2, 2).call(3, 5).run());
        checks.numbers("what they gave", works, 2, -3, 0, 0);
        checks.same("COST of CALL", 10, works.count(2));
        checks.same("nothing given by the run itself", 0, works.given());
        checks.same("one run", 1, works.count(6));
        works.clear(0);
        checks.same("FAILING goes on", 10, new Flow(works, 0).call(2, 3).add(0, 1).run());
        works.clear(0);
        checks.same("it isn't whole", 9, new Flow(works, 0).call(2, 4).run());
        works.clear(0);
        checks.same("that is caught", 0, new Flow(works, 0).tries(128).call(2, 4).catches().add(4, 1).end().run());
        checks.numbers("that is caught", works, 2, -3, 0, 0, 1, 0, -3, 7);
        new Flow(works, 5).loop(9).loop(9).end().end();
        works.clear(0);
        checks.same("STOP goes on", -1, new Flow(works, 0).mute().call(2, 5).end().add(0, 1).run());
        works.clear(0);
        new Flow(works, 6).give(0);
        checks.same("a CALL in a LOOP goes on", 0, new Flow(works, 0).loop(2).call(5, 6).add(5, 1).end().run());
        checks.same("NUMBER 5", 3, works.number(5));
    }

    private static void callsInOneAnother() {
        UndoWorks works = new UndoWorks();
        for (int w = 0; w < 7; w++) {
            new Flow(works, w).add(0, 1).call(1, w + 1);
        }
        new Flow(works, 7).add(0, 1);
        checks.same("from 2: six in one another", 0, works.run(2));
        checks.numbers("six", works, 6);
        checks.same("from 1: a seventh", 9, works.run(1));
        checks.numbers("six more", works, 12);
        checks.same("COST", 12, works.count(2));
        UndoWorks itself = new UndoWorks();
        checks.same("itself", 0, new Flow(itself, 0).add(0, 1).mute().call(1, 0).end().add(2, 1).run());
        checks.numbers("itself", itself, 6, 0, 6);
        UndoWorks often = new UndoWorks();
        new Flow(often, 1).add(0, 1);
        checks.same("behind one another", 0, new Flow(often, 0).loop(9).call(1, 1).end().run());
        checks.numbers("behind one another", often, 9);
    }
}
