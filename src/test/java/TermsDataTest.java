/** Terms, DATA: what stands at first, ints that wrap, and that all of it stays from run to run. */
public final class TermsDataTest {
    private static final int MIN = Integer.MIN_VALUE;
    private static final int MAX = Integer.MAX_VALUE;
    private static final Checks checks = new Checks();

    private TermsDataTest() {
    }

    public static void main(String[] args) {
        numbersAreZeroAtFirst();
        rowHasEightPlacesAtFirst();
        slotsHaveNothingAtFirst();
        numbersWrap();
        placesHoldEveryInt();
        counterIsZeroWhenItIsMade();
        staysHoweverARunEnds();
        staysWhenWorkflowsAreCleared();
        checks.finish();
    }

    private static void numbersAreZeroAtFirst() {
        for (int i = 0; i < 8; i++) {
            UndoWorks works = new UndoWorks();
            checks.same("NUMBER " + i + " before any run", 0, works.number(i));
            checks.same("GIVE", 1, new Flow(works, 0).note(i).give(i).run());
            checks.log("NUMBER " + i + " in the first run", works, 0);
            checks.same("NUMBER " + i + " given by the first run", 0, works.given());
        }
    }

    private static void rowHasEightPlacesAtFirst() {
        checks.row("ROW at first", new UndoWorks(), 0, 0, 0, 0, 0, 0, 0, 0);
        for (int place = -1; place <= 8; place++) {
            UndoWorks works = new UndoWorks();
            boolean there = place >= 0 && place < 8;
            checks.same("READ at " + place + " of the first ROW", there ? 0 : 4, new Flow(works, 0).set(0, place).set(1, 5).read(1, 0).run());
            checks.same("what is read at " + place, there ? 0 : 5, works.number(1));
        }
    }

    private static void slotsHaveNothingAtFirst() {
        for (int slot = 0; slot < 4; slot++) {
            UndoWorks works = new UndoWorks();
            checks.same("SLOT " + slot, 0, works.count(10 + slot));
            checks.same("USE of SLOT " + slot, 7, new Flow(works, 0).use(slot).run());
        }
    }

    private static void adding(int start, int more, int want) {
        for (int i = 0; i < 8; i += 7) {
            UndoWorks works = new UndoWorks();
            new Flow(works, 0).set(i, start).add(i, more).run();
            checks.same(start + " and " + more + " in NUMBER " + i, want, works.number(i));
            new Flow(works, 1).set(i, start).scope().add(i, more).fail(0).end().run();
            checks.same(start + " and " + more + " undone", start, works.number(i));
        }
    }

    private static void numbersWrap() {
        adding(MAX, 1, MIN);
        adding(MAX - 1, 1, MAX);
        adding(MIN, -1, MAX);
        adding(MIN + 1, -1, MIN);
        adding(MAX, MAX, -2);
        adding(MIN, MIN, 0);
        adding(0, MIN, MIN);
        adding(-1, MIN, MAX);
        UndoWorks works = new UndoWorks();
        new Flow(works, 0).set(0, MIN).set(1, -1).divide(0, 1).run();
        checks.same("the least int by -1 wraps", MIN, works.number(0));
    }

    private static void placesHoldEveryInt() {
        for (int value : new int[] {MIN, -1, 0, 1, MAX}) {
            UndoWorks works = new UndoWorks();
            new Flow(works, 0).set(0, 7).set(1, value).write(0, 1).read(2, 0).run();
            checks.same("place 7", value, works.row(7));
            checks.same("READ of place 7", value, works.number(2));
        }
    }

    private static void counterIsZeroWhenItIsMade() {
        for (int slot = 0; slot < 4; slot++) {
            UndoWorks works = new UndoWorks();
            new Flow(works, 0).hold(slot, 1).use(slot).use(slot).hold(slot, 1).use(slot)
                .hold(slot, 2).hold(slot, 1).use(slot).hold(slot, 0).hold(slot, 1).use(slot).run();
            checks.log("each COUNTER of SLOT " + slot + " begins at 0", works, 1, 2, 1, 1, 1);
        }
    }

    /** Sets something of each kind, and then ends as told. */
    private static Flow changesAll(UndoWorks works) {
        return new Flow(works, 0).set(7, 3).set(6, 11).make(7).set(7, 2).write(7, 6).hold(0, 1).use(0).use(0).hold(3, 2);
    }

    private static void staysAs(String how, UndoWorks works) {
        checks.same("a later run, " + how, 0, works.run(7));
        checks.numbers("NUMBERS stay, " + how, works, 0, 0, 0, 0, 0, 0, 11, 2);
        checks.row("ROW stays, " + how, works, 0, 0, 11);
        checks.same("SLOT 0 stays, " + how, 1, works.count(10));
        checks.same("SLOT 3 stays, " + how, 2, works.count(13));
        new Flow(works, 6).use(0).run();
        checks.log("the COUNTER stays, " + how, works, 3);
    }

    private static void staysHoweverARunEnds() {
        UndoWorks ended = new UndoWorks();
        checks.same("it just ended", 0, changesAll(ended).run());
        staysAs("it just ended", ended);
        UndoWorks gave = new UndoWorks();
        checks.same("it gave", 1, changesAll(gave).give(0).run());
        staysAs("it gave", gave);
        UndoWorks failed = new UndoWorks();
        checks.same("it FAILED", 11, changesAll(failed).fail(9).run());
        staysAs("it FAILED", failed);
        UndoWorks stopped = new UndoWorks();
        checks.same("STOP", -1, changesAll(stopped).burn(60).run());
        staysAs("STOP", stopped);
    }

    private static void staysWhenWorkflowsAreCleared() {
        UndoWorks works = new UndoWorks();
        changesAll(works).run();
        for (int w = 0; w < 8; w++) {
            works.clear(w);
        }
        staysAs("all cleared", works);
    }
}
