/** Terms, UNDO: the latest first, KEEP, a LOST place, a SCOPE in a SCOPE, and one that ends otherwise than FAILING. */
public final class TermsUndoTest {
    private static final int MIN = Integer.MIN_VALUE;
    private static final Checks checks = new Checks();

    private TermsUndoTest() {
    }

    public static void main(String[] args) {
        theSixSortsAndNoOther();
        theLatestFirst();
        nothingToUndo();
        keepAtEachPoint();
        keepIsOfTheInnermostAlone();
        lostFromTheFirstPlaceThatIsNotThere();
        lostIsEachPlaceOnce();
        aScopeInAScope();
        otherwiseThanFailing();
        stopUndoesNothing();
        inWhatIsCalled();
        itFailsSo();
        nextRunHasNothingLeft();
        howeverMuchWasDoneBefore();
        checks.finish();
    }

    /** What SORTS 1, 2, 3, 5, 6, 7 did is undone, what READ, USE and NOTE did stays. */
    private static void theSixSortsAndNoOther() {
        int[][] nodes = {{0, 2, 0}, {1, 2, 3}, {2, 2, 3}, {3, 2, 3}, {4, 4, 3}, {5, 3, 3}, {6, 3, 0}, {7, 2, 2}, {8, 2, 0}};
        for (int[] node : nodes) {
            int sort = node[0];
            UndoWorks works = new UndoWorks();
            new Flow(works, 0).set(2, 40).set(3, 2).write(3, 2).hold(2, 1).use(2).run();
            checks.same("SORT " + sort, 11, new Flow(works, 1).scope().put(sort, node[1], node[2]).fail(9).end().run());
            checks.same("SORT " + sort + ", undone", sort == 0 || sort == 4 || sort == 8 ? 0 : 1, works.count(4));
            checks.same("SORT " + sort + ", LOST", 0, works.count(3));
            checks.same("SORT " + sort + ", LOG's ints", sort == 0 || sort == 8 ? 1 : 0, works.count(1));
            checks.numbers("SORT " + sort, works, 0, 0, 40, 2, sort == 4 ? 40 : 0, 0, 0, 0);
            checks.row("SORT " + sort, works, 0, 0, 40, 0, 0, 0, 0, 0);
            checks.same("SORT " + sort + ", SLOT 2", 1, works.count(12));
            new Flow(works, 2).use(2).run();
            checks.log("SORT " + sort + ", the COUNTER", works, sort == 8 ? 3 : 2);
        }
    }

    private static void theLatestFirst() {
        UndoWorks numbers = new UndoWorks();
        new Flow(numbers, 0).set(0, 9).set(1, 2).scope().set(0, 100).divide(0, 1).add(0, 7).set(0, MIN).fail(0).end().run();
        checks.numbers("SET, DIVIDE, ADD, SET", numbers, 9, 2);
        UndoWorks place = new UndoWorks();
        new Flow(place, 0).set(0, 3).set(1, 11).write(0, 1).set(2, 12).set(3, 13).scope().write(0, 2).write(0, 3).fail(0).end().run();
        checks.row("WRITE twice in a place", place, 0, 0, 0, 11, 0, 0, 0, 0);
        UndoWorks rows = new UndoWorks();
        new Flow(rows, 0).set(0, 1).write(0, 0).set(2, 2).scope().write(0, 2).make(2).write(0, 2).make(0).fail(0).end().run();
        checks.row("WRITE, MAKE, WRITE, MAKE", rows, 0, 1, 0, 0, 0, 0, 0, 0);
        checks.same("none LOST", 0, rows.count(3));
        UndoWorks slot = new UndoWorks();
        new Flow(slot, 0).hold(3, 2).scope().hold(3, 1).use(3).hold(3, 0).hold(3, 1).fail(0).end().run();
        checks.same("HOLD three times", 2, slot.count(13));
        UndoWorks both = new UndoWorks();
        new Flow(both, 0).set(0, 5).scope().add(0, 1).set(0, 20).add(0, 1).fail(0).end().run();
        checks.numbers("the other way round NUMBER 0 would be 4", both, 5);
    }

    private static void nothingToUndo() {
        UndoWorks works = new UndoWorks();
        checks.same("an empty SCOPE", 0, new Flow(works, 0).scope().end().run());
        checks.same("FAIL alone", 11, new Flow(works, 1).scope().fail(9).end().run());
        checks.same("FAIL behind KEEP", 11, new Flow(works, 2).scope().keep().fail(9).end().run());
        checks.same("undone", 0, works.count(4));
        checks.same("before and behind the SCOPE isn't in it", 3, new Flow(works, 3).add(0, 1).mute().scope().fail(1).end().end().add(0, 1).fail(1).run());
        checks.numbers("before and behind", works, 2);
        checks.same("undone", 0, works.count(4));
    }

    /** Eight ADDS in a SCOPE, KEEP behind the first so many of them. */
    private static void keepAtEachPoint() {
        for (int kept = 0; kept <= 8; kept++) {
            UndoWorks works = new UndoWorks();
            Flow flow = new Flow(works, 0).scope();
            int[] want = new int[8];
            for (int i = 0; i < 8; i++) {
                if (i == kept) {
                    flow.keep();
                }
                flow.add(i, 1);
                want[i] = i < kept ? 1 : 0;
            }
            if (kept == 8) {
                flow.keep();
            }
            flow.fail(1).end().run();
            checks.numbers("KEEP behind " + kept, works, want);
            checks.same("undone behind KEEP " + kept, 8 - kept, works.count(4));
        }
    }

    private static void keepIsOfTheInnermostAlone() {
        UndoWorks works = new UndoWorks();
        new Flow(works, 0).scope().add(0, 1).scope().add(1, 1).scope().add(2, 1).keep().end().add(3, 1).end().add(4, 1).fail(1).end().run();
        checks.numbers("KEEP in the third", works, 0, 0, 1, 0, 0);
        checks.same("undone", 4, works.count(4));
        UndoWorks middle = new UndoWorks();
        new Flow(middle, 0).scope().add(0, 1).scope().add(1, 1).scope().add(2, 1).end().keep().add(3, 1).end().add(4, 1).fail(1).end().run();
        checks.numbers("KEEP in the second, behind the third", middle, 0, 1, 1, 0, 0);
        checks.same("undone", 3, middle.count(4));
        UndoWorks outside = new UndoWorks();
        checks.same("KEEP in no SCOPE does nothing", 0, new Flow(outside, 0).keep().add(0, 1).keep().run());
        checks.numbers("KEEP in no SCOPE", outside, 1);
        new Flow(outside, 1).keep().scope().add(1, 1).fail(1).end().run();
        checks.numbers("KEEP before the SCOPE isn't in it", outside, 1, 0);
        new Flow(outside, 2).mute().scope().add(2, 1).fail(1).end().end().keep().run();
        checks.numbers("KEEP behind it comes too late", outside, 1, 0, 0);
    }

    /** A ROW whose eight places are 50 .. 57, and NUMBERS 0 .. 6 that are 0 .. 6. */
    private static UndoWorks withRow() {
        UndoWorks works = new UndoWorks();
        new Flow(works, 0).set(1, 50).loop(8).write(0, 1).add(0, 1).add(1, 1).end().run();
        Flow set = new Flow(works, 1);
        for (int i = 0; i <= 6; i++) {
            set.set(i, i);
        }
        set.run();
        works.clear(0);
        works.clear(1);
        return works;
    }

    /** WRITES at places 0 .. 6, and then a ROW of so many places that is KEPT. */
    private static void lostFromTheFirstPlaceThatIsNotThere() {
        for (int places = 0; places <= 16; places++) {
            UndoWorks works = withRow();
            Flow flow = new Flow(works, 0).set(7, places).scope();
            for (int i = 0; i <= 6; i++) {
                flow.write(i, 7);
            }
            checks.same("WRITES, then a ROW of " + places, 6, flow.scope().make(7).keep().end().fail(4).end().run());
            int[] want = new int[places];
            for (int i = 0; i < Math.min(places, 7); i++) {
                want[i] = 50 + i;
            }
            checks.row("what it was, in the ROW of then", works, want);
            checks.same("LOST of " + places, Math.max(7 - places, 0), works.count(3));
            checks.same("undone of " + places, Math.min(places, 7), works.count(4));
        }
    }

    private static void lostIsEachPlaceOnce() {
        UndoWorks works = withRow();
        new Flow(works, 0).set(7, 3).scope().write(3, 0).write(3, 1).write(2, 1).scope().make(7).keep().end().fail(4).end();
        checks.same("two WRITES in a place that is gone", 6, works.run(0));
        checks.same("LOST", 2, works.count(3));
        checks.same("undone", 1, works.count(4));
        checks.row("the other is undone", works, 0, 0, 52);
        checks.same("a WRITE that isn't there itself FAILS", 4, new Flow(works, 1).scope().write(3, 0).end().run());
        checks.same("and is not LOST", 2, works.count(3));
        checks.same("KEPT is not LOST either", 3, new Flow(works, 2).set(7, 0).scope().write(2, 0).keep().scope().make(7).keep().end().fail(1).end().run());
        checks.same("LOST still", 2, works.count(3));
        UndoWorks back = withRow();
        new Flow(back, 0).set(7, 3).scope().write(6, 0).scope().make(7).end().fail(4).end().run();
        checks.row("a MAKE that is not KEPT is undone first", back, 50, 51, 52, 53, 54, 55, 56, 57);
        checks.same("none is LOST", 0, back.count(3));
        checks.same("both are undone", 2, back.count(4));
    }

    private static void aScopeInAScope() {
        UndoWorks works = new UndoWorks();
        checks.same("the inner FAILS and is caught in the outer, which ends", 0, new Flow(works, 0).scope().add(0, 1)
            .tries(1023).scope().add(1, 1).fail(1).end().catches().add(2, 1).end().add(3, 1).end().run());
        checks.numbers("the inner alone is undone", works, 1, 0, 1, 1);
        checks.same("undone", 1, works.count(4));
        UndoWorks outer = new UndoWorks();
        checks.same("the same, but the outer FAILS too", 4, new Flow(outer, 0).scope().add(0, 1)
            .tries(1023).scope().add(1, 1).fail(1).end().catches().add(2, 1).end().add(3, 1).fail(2).end().run());
        checks.numbers("the inner once, then what else was done", outer, 0, 0, 0, 0);
        checks.same("undone", 4, outer.count(4));
        UndoWorks third = new UndoWorks();
        checks.same("three in one another", 2, new Flow(third, 0).scope().scope().scope().add(0, 1).end().end().fail(0).end().run());
        checks.numbers("what became the outer's twice", third, 0);
        checks.same("undone", 1, third.count(4));
        UndoWorks none = new UndoWorks();
        checks.same("no SCOPE around it", 2, new Flow(none, 0).scope().add(0, 1).end().fail(0).run());
        checks.numbers("what has no SCOPE around it stays", none, 1);
    }

    /** The inner SCOPE ends so, which is muted; then the outer goes on, or FAILS. */
    private static void otherwiseThanFailing() {
        int[] endings = {0, 17, 18, 19};
        for (int sort : endings) {
            UndoWorks ended = new UndoWorks();
            checks.same("SORT " + sort + " out of the inner", 0, inner(ended, sort).end().run());
            checks.numbers("SORT " + sort + " undoes nothing", ended, 1);
            checks.same("undone", 0, ended.count(4));
            UndoWorks failed = new UndoWorks();
            checks.same("SORT " + sort + ", and the outer FAILS", 7, inner(failed, sort).fail(5).end().run());
            checks.numbers("SORT " + sort + ": it became the outer's", failed, 0);
            checks.same("undone", 1, failed.count(4));
        }
    }

    private static Flow inner(UndoWorks works, int sort) {
        return new Flow(works, 0).scope().loop(1).mute().scope().add(0, 1).put(sort, 0, 0).end().end().end();
    }

    private static void stopUndoesNothing() {
        UndoWorks works = new UndoWorks();
        new Flow(works, 0).scope().add(0, 1).hold(0, 1).scope().set(1, 4).make(1).write(2, 1).burn(60).end().end();
        checks.same("STOP in two SCOPES", -1, works.run(0));
        checks.numbers("NUMBERS", works, 1, 4);
        checks.row("ROW", works, 4, 0, 0, 0);
        checks.same("SLOT 0", 1, works.count(10));
        checks.same("undone", 0, works.count(4));
        UndoWorks tried = new UndoWorks();
        checks.same("STOP in a FINAL of what FAILED", -1, new Flow(tried, 0).scope().add(0, 1).tries(0).fail(1).ends().burn(60).end().end().run());
        checks.numbers("it ends by STOP, not FAILING", tried, 1);
        checks.same("undone", 0, tried.count(4));
    }

    private static void inWhatIsCalled() {
        UndoWorks works = new UndoWorks();
        new Flow(works, 1).add(0, 1).call(7, 2);
        new Flow(works, 2).add(1, 1).set(2, 5).hold(1, 2);
        checks.same("called in a SCOPE", 3, new Flow(works, 0).scope().call(7, 1).fail(1).end().run());
        checks.numbers("what was called, and what that called", works, 0, 0, 0);
        checks.same("SLOT 1", 0, works.count(11));
        checks.same("undone", 4, works.count(4));
        checks.same("called outside", 3, new Flow(works, 3).call(7, 1).scope().fail(1).end().run());
        checks.numbers("called outside stays", works, 1, 1, 5);
        new Flow(works, 4).scope().add(3, 1).fail(6).end();
        checks.same("a SCOPE that is called and FAILS", 0, new Flow(works, 5).scope().add(4, 1).mute().call(7, 4).end().end().run());
        checks.numbers("undoes its own alone", works, 1, 1, 5, 0, 1);
    }

    private static void itFailsSo() {
        for (int kind = 0; kind <= 9; kind++) {
            UndoWorks works = new UndoWorks();
            new Flow(works, 0).tries(1 << kind).scope().scope().add(0, 1).fail(kind).end().add(1, 1).end().add(1, 1).catches().note(0).end();
            checks.same("kind " + kind + " goes on out of both", 0, works.run(0));
            checks.numbers("kind " + kind, works, 0, 0, 0, 0, 0, 0, 0, kind);
            checks.log("undone before it is caught", works, 0);
        }
    }

    private static void nextRunHasNothingLeft() {
        int[] endings = {0, 1, 2, 3};
        for (int ending : endings) {
            UndoWorks works = new UndoWorks();
            Flow flow = new Flow(works, 0).scope().add(0, 1).add(0, 1);
            switch (ending) {
                case 1: flow.give(0); break;
                case 2: flow.burn(60); break;
                case 3: flow.fail(0); break;
                default: break;
            }
            flow.end().run();
            int before = works.number(0);
            int undone = works.count(4);
            checks.same("a later run FAILS", 2, new Flow(works, 1).scope().add(1, 1).fail(0).end().run());
            checks.same("what the run before did stays", before, works.number(0));
            checks.same("undone", undone + 1, works.count(4));
        }
    }

    /** What earlier runs did, in SCOPES or in none, takes no room from what a later one can undo. */
    private static void howeverMuchWasDoneBefore() {
        UndoWorks works = new UndoWorks();
        Flow inScope = new Flow(works, 0).scope().loop(9).add(0, 1).add(0, 1).add(0, 1).add(0, 1).end().end();
        Flow inNone = new Flow(works, 1).loop(9).add(0, 1).add(0, 1).add(0, 1).add(0, 1).end();
        Flow stopped = new Flow(works, 2).scope().loop(9).add(0, 1).add(0, 1).add(0, 1).add(0, 1).add(0, 1).end().burn(60).end();
        Flow failing = new Flow(works, 3).scope().loop(9).add(1, 1).add(1, 1).add(1, 1).add(1, 1).end().fail(0).end();
        for (int i = 1; i <= 5; i++) {
            checks.same("36 in a SCOPE", 0, inScope.run());
            checks.same("36 in none", 0, inNone.run());
            checks.same("36 in none again", 0, inNone.run());
            checks.same("45 in a SCOPE, then STOP", -1, stopped.run());
            checks.same("36 in a SCOPE that FAILS", 2, failing.run());
            checks.numbers("they are undone", works, i * 153, 0);
            checks.same("undone", i * 36, works.count(4));
        }
    }
}
