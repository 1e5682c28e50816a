/** Terms, LOOP, BREAK and NEXT: no rounds, the most rounds, the last round, and the LOOPS further out. */
public final class TermsLoopsTest {
    private static final Checks checks = new Checks();

    private TermsLoopsTest() {
    }

    public static void main(String[] args) {
        rounds();
        aLoopOfNoRounds();
        breakInEachRound();
        nextInTheLastRound();
        ofEachOuterLoop();
        nextOfAnOuterLoopInItsLastRound();
        throughOtherBlocks();
        whatFailsOrGivesEndsAllLoops();
        checks.finish();
    }

    private static void rounds() {
        for (int many = 0; many <= 9; many++) {
            UndoWorks works = new UndoWorks();
            checks.same("LOOP " + many, 0, new Flow(works, 0).loop(many).add(0, 1).end().add(1, 1).run());
            checks.numbers("LOOP " + many, works, many, 1);
            checks.same("COST of LOOP " + many, 2 + 2 * many, works.count(2));
        }
    }

    private static void aLoopOfNoRounds() {
        UndoWorks works = new UndoWorks();
        checks.same("what would FAIL, give or leave isn't done", 0, new Flow(works, 0).loop(3).loop(0).fail(1).give(0).leave(1).end().add(0, 1).end().run());
        checks.numbers("LOOP 0", works, 3);
        checks.same("COST", 10, works.count(2));
    }

    private static void breakInEachRound() {
        for (int round = 1; round <= 9; round++) {
            UndoWorks works = new UndoWorks();
            new Flow(works, 0).set(0, -round).loop(9).add(0, 1).when(0).otherwise().leave(0).end().add(1, 1).end().add(2, 1);
            checks.same("BREAK in round " + round, 0, works.run(0));
            checks.numbers("BREAK in round " + round, works, 0, round - 1, 1);
        }
    }

    private static void nextInTheLastRound() {
        UndoWorks works = new UndoWorks();
        checks.same("NEXT", 0, new Flow(works, 0).loop(9).add(0, 1).next(0).add(1, 1).end().add(2, 1).run());
        checks.numbers("NEXT in the last round goes on behind the LOOP", works, 9, 0, 1);
        checks.same("NEXT in the only round", 0, new Flow(works, 1).loop(1).add(3, 1).next(0).add(1, 1).end().add(2, 1).run());
        checks.numbers("NEXT in the only round", works, 9, 0, 2, 1);
    }

    /** Ten LOOPS; NUMBER 0 counts the rounds of the innermost, 1 what comes behind the LOOP that is meant. */
    private static void ofEachOuterLoop() {
        for (int number = 0; number <= 9; number++) {
            UndoWorks left = new UndoWorks();
            Flow flow = tenLoops(left, number).leave(number);
            checks.same("BREAK " + number + " of ten", 0, closeTenLoops(flow, number).run());
            checks.numbers("BREAK " + number + " leaves that LOOP and no other", left, 1, 1);
            checks.same("ten LOOPS, ten rounds, BREAK " + number + " and two ADDS", 23, left.count(2));
            UndoWorks next = new UndoWorks();
            Flow again = tenLoops(next, number).next(number);
            checks.same("NEXT " + number + " of ten", 0, closeTenLoops(again, number).run());
            checks.numbers("NEXT " + number + " is the next round of that LOOP and no other", next, 2, 1);
        }
    }

    /** The LOOP that is meant has two rounds, those around it and in it one. */
    private static Flow tenLoops(UndoWorks works, int meant) {
        Flow flow = new Flow(works, 0);
        for (int number = 9; number >= 0; number--) {
            flow.loop(number == meant ? 2 : 1);
        }
        return flow.add(0, 1);
    }

    private static Flow closeTenLoops(Flow flow, int meant) {
        for (int number = 0; number <= 9; number++) {
            flow.end();
            if (number < meant) {
                flow.fail(9);
            } else if (number == meant) {
                flow.add(1, 1);
            }
        }
        return flow;
    }

    private static void nextOfAnOuterLoopInItsLastRound() {
        UndoWorks works = new UndoWorks();
        new Flow(works, 0).loop(3).add(0, 1).loop(9).add(1, 1).next(1).add(2, 1).end().add(3, 1).end().add(4, 1);
        checks.same("NEXT 1", 0, works.run(0));
        checks.numbers("NEXT 1 in the last round of the outer", works, 3, 3, 0, 0, 1);
        new Flow(works, 1).loop(3).loop(9).leave(1).end().add(5, 1).end().add(6, 1);
        checks.same("BREAK 1", 0, works.run(1));
        checks.numbers("BREAK 1 in the first round of both", works, 3, 3, 0, 0, 1, 0, 1);
    }

    private static void throughOtherBlocks() {
        int[] sorts = {17, 18};
        for (int sort : sorts) {
            for (int number = 0; number <= 1; number++) {
                UndoWorks works = new UndoWorks();
                Flow flow = new Flow(works, 0).set(6, 1).loop(2).add(0, 1).loop(2).add(1, 1)
                    .tries(1023).scope().when(6).put(sort, 0, number).end().add(5, 1).end().catches().add(5, 1).ends().add(2, 1).end()
                    .add(5, 1).end().add(3, 1).end().add(4, 1);
                checks.same("SORT " + sort + " with " + number, 0, flow.run());
                boolean leaving = sort == 17;
                int inner = number == 0 ? (leaving ? 2 : 4) : (leaving ? 1 : 2);
                int outer = number == 1 && leaving ? 1 : 2;
                checks.numbers("SORT " + sort + " with " + number + " through SCOPE, IF and TRY, with its FINAL", works,
                    outer, inner, inner, number == 0 ? 2 : 0, 1, 0, 1, 0);
            }
        }
    }

    private static void whatFailsOrGivesEndsAllLoops() {
        UndoWorks works = new UndoWorks();
        checks.same("FAIL", 8, new Flow(works, 0).loop(2).loop(2).add(0, 1).fail(6).end().end().add(1, 1).run());
        checks.same("GIVE", 1, new Flow(works, 1).loop(2).loop(2).add(0, 1).give(0).end().end().add(1, 1).run());
        checks.numbers("each in the first round", works, 2, 0);
    }
}
