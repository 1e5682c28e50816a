/** Terms, COST: what costs, the sixtieth, what would come behind it, and that STOP passes every block. */
public final class TermsCostTest {
    private static final Checks checks = new Checks();

    private TermsCostTest() {
    }

    public static void main(String[] args) {
        eachSortCostsOneOrNothing();
        eachSortAsTheSixtieth();
        eachSortBehindTheSixtieth();
        aRoundAsTheSixtiethAndBehindIt();
        partsAndEndsBehindTheSixtieth();
        whatIsNotBegunCostsNothing();
        stopPassesEveryBlock();
        stopKeepsWhatWasDone();
        inWhatIsCalled();
        checks.finish();
    }

    /** The NODE, with its END and what it needs around it; b and a are 0, so that no block has rounds. */
    private static Flow one(Flow flow, int sort) {
        switch (sort) {
            case 10: case 13: case 14: case 15: case 21: return flow.put(sort, 0, 0).end();
            case 20: return flow.call(0, 7);
            default: return flow.put(sort, 0, 0);
        }
    }

    /** What run answers if that NODE is done and nothing comes behind it; all NUMBERS are 0, SLOT 0 has a COUNTER. */
    private static int answerOf(int sort) {
        return sort == 3 ? 3 : sort == 9 ? 2 : sort == 19 ? 1 : 0;
    }

    private static final int[] COSTLY = {0, 1, 2, 3, 4, 5, 6, 7, 8, 9, 10, 13, 14, 15, 19, 20, 21, 23};

    private static UndoWorks withCounter() {
        UndoWorks works = new UndoWorks();
        new Flow(works, 6).hold(0, 1).run();
        works.clear(6);
        return works;
    }

    private static void eachSortCostsOneOrNothing() {
        for (int sort : COSTLY) {
            UndoWorks works = withCounter();
            checks.same("SORT " + sort, answerOf(sort), one(new Flow(works, 0), sort).run());
            checks.same("COST of SORT " + sort, 1, works.count(2));
        }
        for (int sort : new int[] {17, 18}) {
            UndoWorks works = new UndoWorks();
            new Flow(works, 0).loop(1).put(sort, 0, 0).end().run();
            checks.same("COST of LOOP, round and SORT " + sort, 3, works.count(2));
        }
        UndoWorks works = new UndoWorks();
        new Flow(works, 0).tries(2).fail(1).catches().note(0).ends().note(0).end().when(0).otherwise().note(0).end().run();
        checks.same("COST of TRY, FAIL, IF and three NOTES", 6, works.count(2));
    }

    private static void eachSortAsTheSixtieth() {
        for (int sort : COSTLY) {
            UndoWorks works = withCounter();
            checks.same("SORT " + sort + " as the sixtieth", answerOf(sort), one(new Flow(works, 0).burn(59), sort).run());
            checks.same("its COST", 60, works.count(2));
        }
        for (int sort : new int[] {17, 18}) {
            UndoWorks works = new UndoWorks();
            checks.same("SORT " + sort + " as the sixtieth", 0, new Flow(works, 0).burn(57).loop(1).put(sort, 0, 0).end().run());
            checks.same("its COST", 60, works.count(2));
        }
    }

    private static void eachSortBehindTheSixtieth() {
        for (int sort : COSTLY) {
            UndoWorks works = withCounter();
            Flow flow = one(new Flow(works, 0).burn(60), sort);
            String before = Checks.allOf(works);
            checks.same("SORT " + sort + " behind the sixtieth: STOP", -1, flow.run());
            checks.same("its COST", 60, works.count(2));
            checks.holds("SORT " + sort + " isn't done",
                before.replace("count(2) 1,", "count(2) 60,").replace("count(6) 1,", "count(6) 2,").equals(Checks.allOf(works)));
        }
        for (int sort : new int[] {17, 18}) {
            UndoWorks works = new UndoWorks();
            checks.same("SORT " + sort + " behind the sixtieth: STOP", -1, new Flow(works, 0).burn(58).loop(1).put(sort, 0, 0).end().run());
            checks.same("its COST", 60, works.count(2));
        }
    }

    private static void aRoundAsTheSixtiethAndBehindIt() {
        for (int before = 50; before <= 59; before++) {
            int rounds = 60 - before - 1;
            UndoWorks works = new UndoWorks();
            checks.same("round " + rounds + " as the sixtieth", 0, new Flow(works, 0).burn(before).loop(rounds).end().run());
            checks.same("COST", 60, works.count(2));
            if (rounds < 9) {
                UndoWorks more = new UndoWorks();
                checks.same("a round more", -1, new Flow(more, 0).burn(before).loop(rounds + 1).end().run());
                checks.same("COST", 60, more.count(2));
            }
        }
    }

    private static void partsAndEndsBehindTheSixtieth() {
        UndoWorks works = new UndoWorks();
        checks.same("CATCH, FINAL, END behind the sixtieth", 0, new Flow(works, 0).tries(0).burn(59).catches().note(0).ends().end().run());
        checks.same("COST", 60, works.count(2));
        checks.same("a CATCH that takes it, empty", 0, new Flow(works, 1).tries(1).burn(58).fail(0).catches().ends().end().run());
        checks.same("COST", 60, works.count(2));
        checks.same("ELSE and END behind the sixtieth", 0, new Flow(works, 2).set(0, 1).when(0).burn(58).otherwise().note(0).end().run());
        checks.same("COST", 60, works.count(2));
        checks.same("NODES in a CATCH behind the sixtieth", -1, new Flow(works, 3).tries(32).burn(58).fail(5).catches().add(1, 1).end().run());
        checks.same("NODES in a FINAL behind the sixtieth", -1, new Flow(works, 4).tries(0).burn(59).ends().add(1, 1).end().run());
        checks.same("NUMBER 1", 0, works.number(1));
        checks.same("the kind was taken before it", 5, works.number(7));
    }

    private static void whatIsNotBegunCostsNothing() {
        UndoWorks works = new UndoWorks();
        new Flow(works, 0).when(0).burn(40).end().loop(0).burn(40).end().tries(0).catches().burn(40).end().run();
        checks.same("COST of IF, LOOP, TRY", 3, works.count(2));
        new Flow(works, 1).fail(1).burn(40).run();
        checks.same("COST of FAIL", 1, works.count(2));
        checks.same("an empty workflow", 0, works.run(2));
        checks.same("COST of none", 0, works.count(2));
    }

    private static Flow passing(UndoWorks works, int... openers) {
        Flow flow = new Flow(works, 0).set(0, 1).loop(1);
        for (int opener : openers) {
            flow.put(opener, 0, opener == 10 ? 1023 : opener == 13 ? 9 : 0);
        }
        return flow.burn(60).add(1, 1);
    }

    private static void stopped(String what, UndoWorks works, Flow flow) {
        checks.same("STOP passes " + what, -1, flow.add(2, 1).end().add(3, 1).run());
        checks.numbers("STOP passes " + what, works, 1, 0, 0, 0, 0, 0, 0, 0);
        checks.same("STOP passes " + what + ": COST", 60, works.count(2));
        checks.same("STOP passes " + what + ": undone", 0, works.count(4));
        checks.same("STOP passes " + what + ": given", 0, works.given());
    }

    private static void stopPassesEveryBlock() {
        UndoWorks loop = new UndoWorks();
        stopped("LOOP", loop, passing(loop, 13).end());
        UndoWorks scope = new UndoWorks();
        stopped("SCOPE", scope, passing(scope, 14).end());
        UndoWorks mute = new UndoWorks();
        stopped("MUTE", mute, passing(mute, 15).end());
        UndoWorks when = new UndoWorks();
        stopped("IF", when, passing(when, 21).otherwise().add(4, 1).end());
        UndoWorks otherwise = new UndoWorks();
        stopped("ELSE", otherwise, new Flow(otherwise, 0).set(0, 1).loop(1).when(1).otherwise().burn(60).add(1, 1).end());
        UndoWorks tried = new UndoWorks();
        stopped("TRY", tried, passing(tried, 10).end());
        UndoWorks caught = new UndoWorks();
        stopped("TRY with CATCH and FINAL", caught, passing(caught, 10).catches().add(4, 1).ends().add(5, 1).end());
        UndoWorks in = new UndoWorks();
        stopped("CATCH", in, new Flow(in, 0).set(0, 1).loop(1).tries(1).fail(0).catches().burn(60).add(1, 1).ends().add(5, 1).end());
        UndoWorks last = new UndoWorks();
        stopped("FINAL", last, new Flow(last, 0).set(0, 1).loop(1).tries(0).fail(0).ends().burn(60).add(1, 1).end());
        UndoWorks called = new UndoWorks();
        new Flow(called, 1).burn(60).add(1, 1);
        stopped("CALL", called, new Flow(called, 0).set(0, 1).loop(1).call(0, 1));
        UndoWorks all = new UndoWorks();
        stopped("all of them", all, passing(all, 10, 13, 14, 15, 21).end().end().end().end().catches().add(4, 1).ends().add(5, 1).end());
    }

    private static void stopKeepsWhatWasDone() {
        UndoWorks works = new UndoWorks();
        new Flow(works, 0).set(0, 2).write(0, 0).hold(0, 2).note(0).burn(55).add(1, 1).add(1, 1);
        checks.same("STOP", -1, works.run(0));
        checks.numbers("the sixtieth is done, the next isn't", works, 2, 1);
        checks.row("ROW", works, 0, 0, 2, 0, 0, 0, 0, 0);
        checks.log("LOG", works, 2);
        checks.same("SLOT 0", 2, works.count(10));
        checks.same("runs", 1, works.count(6));
        checks.same("the next run begins at 0", 0, new Flow(works, 1).burn(60).run());
        checks.same("COST", 60, works.count(2));
    }

    private static void inWhatIsCalled() {
        UndoWorks works = new UndoWorks();
        new Flow(works, 1).burn(29);
        checks.same("two CALLS of 29 each", 0, new Flow(works, 0).call(0, 1).call(0, 1).run());
        checks.same("COST", 60, works.count(2));
        checks.same("a NODE more", -1, new Flow(works, 0).note(0).run());
        new Flow(works, 2).burn(30);
        checks.same("one more in what is called", -1, new Flow(works, 3).call(0, 1).call(0, 2).run());
        checks.same("COST", 60, works.count(2));
    }
}
