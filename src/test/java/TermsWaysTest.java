/** Terms, the WAYS to end and the SORTS 10 .. 22: every WAY out of every part of every block that it can leave. */
public final class TermsWaysTest {
    private static final String[] WAYS = {"going on", "leaving", "next round", "giving", "FAILING"};
    private static final int GOING_ON = 0;
    private static final int LEAVING = 1;
    private static final int NEXT_ROUND = 2;
    private static final int GIVING = 3;
    private static final int FAILING = 4;
    private static final Checks checks = new Checks();

    private TermsWaysTest() {
    }

    public static void main(String[] args) {
        firstOtherWayEndsABlock();
        catchTakesTheBitsOfB();
        catchTakesFailingAlone();
        catchTakesNothingOfItsOwn();
        catchTakesWhatStepsAndCallsFailWith();
        finalMeetsEveryWay();
        finalMeetsEveryWayOfACatch();
        muteGoesOnAllTheSame();
        ifTakesWhatIsNot0();
        givesEachNumber();
        checks.finish();
    }

    /** Puts a NODE that ends so; what it gives is in NUMBER 5 or 6, what it FAILS with is 3 or 4. */
    private static Flow ending(Flow flow, int way, boolean second) {
        switch (way) {
            case LEAVING: return flow.leave(0);
            case NEXT_ROUND: return flow.next(0);
            case GIVING: return flow.give(second ? 6 : 5);
            case FAILING: return flow.fail(second ? 4 : 3);
            default: return flow;
        }
    }

    /** A LOOP of two rounds: NUMBER 0 counts the rounds begun, 1 those that go on behind, 2 what comes behind the LOOP. */
    private static Flow begin(UndoWorks works) {
        return new Flow(works, 0).set(5, 50).set(6, 60).loop(2).add(0, 1);
    }

    private static void endsSo(String what, UndoWorks works, Flow flow, int way, boolean second) {
        int due = way == GIVING ? 1 : way != FAILING ? 0 : second ? 6 : 5;
        checks.same(what, due, flow.add(1, 1).end().add(2, 1).run());
        checks.same(what + ", given", way != GIVING ? 0 : second ? 60 : 50, works.given());
        int rounds = way == GOING_ON || way == NEXT_ROUND ? 2 : 1;
        checks.numbers(what, works, rounds, way == GOING_ON ? 2 : 0, way == GIVING || way == FAILING ? 0 : 1);
    }

    private static void firstOtherWayEndsABlock() {
        for (int way = 0; way < 5; way++) {
            for (int later = 0; later < 5; later++) {
                UndoWorks works = new UndoWorks();
                Flow flow = ending(ending(begin(works), way, false), later, true);
                endsSo(WAYS[way] + " before " + WAYS[later], works, flow, way == GOING_ON ? later : way, way == GOING_ON);
            }
        }
    }

    private static void catchTakesTheBitsOfB() {
        for (int kind = 0; kind <= 9; kind++) {
            for (int bit = 0; bit <= 9; bit++) {
                UndoWorks works = new UndoWorks();
                new Flow(works, 0).set(7, -5).tries(1 << bit).fail(kind).catches().add(0, 1).end().add(1, 1);
                boolean taken = kind == bit;
                String what = "kind " + kind + ", b " + (1 << bit);
                checks.same(what, taken ? 0 : 2 + kind, works.run(0));
                checks.numbers(what, works, taken ? 1 : 0, taken ? 1 : 0, 0, 0, 0, 0, 0, taken ? kind : -5);
            }
            UndoWorks none = new UndoWorks();
            checks.same("kind " + kind + ", b 0", 2 + kind, new Flow(none, 0).set(7, -5).tries(0).fail(kind).catches().add(0, 1).end().run());
            checks.numbers("kind " + kind + ", b 0", none, 0, 0, 0, 0, 0, 0, 0, -5);
            UndoWorks all = new UndoWorks();
            checks.same("kind " + kind + ", b 1023", 0, new Flow(all, 0).set(7, -5).tries(1023).fail(kind).catches().add(0, 1).end().run());
            checks.numbers("kind " + kind + ", b 1023", all, 1, 0, 0, 0, 0, 0, 0, kind);
        }
    }

    private static void catchTakesFailingAlone() {
        for (int way = 0; way < 5; way++) {
            UndoWorks works = new UndoWorks();
            Flow flow = ending(begin(works).tries(1023), way, false).catches().add(3, 1).end();
            String what = "CATCH behind " + WAYS[way];
            endsSo(what, works, flow, way == FAILING ? GOING_ON : way, false);
            checks.same(what + ", how often it is done", way == FAILING ? 2 : 0, works.number(3));
            checks.same(what + ", NUMBER 7", way == FAILING ? 3 : 0, works.number(7));
        }
    }

    private static void catchTakesNothingOfItsOwn() {
        UndoWorks works = new UndoWorks();
        checks.same("a FAIL in the CATCH isn't for that CATCH", 10, new Flow(works, 0).tries(1023).fail(1).catches().add(0, 1).fail(8).end().run());
        checks.numbers("the CATCH is done once", works, 1, 0, 0, 0, 0, 0, 0, 1);
        checks.same("but for the one around it", 0, new Flow(works, 1).tries(256).tries(2).fail(1).catches().fail(8).end().catches().add(1, 1).end().run());
        checks.numbers("the outer CATCH", works, 1, 1, 0, 0, 0, 0, 0, 8);
        checks.same("a FAIL in the FINAL isn't for that CATCH", 11, new Flow(works, 2).tries(1023).catches().add(2, 1).ends().fail(9).end().run());
        checks.same("but for the one around it", 0, new Flow(works, 3).tries(512).tries(1023).catches().add(2, 1).ends().fail(9).end().catches().add(3, 1).end().run());
        checks.numbers("the outer CATCH", works, 1, 1, 0, 1, 0, 0, 0, 9);
        checks.same("a FAIL behind the TRY isn't for its CATCH", 4, new Flow(works, 4).tries(1023).catches().add(2, 1).end().fail(2).run());
        checks.same("NUMBER 2", 0, works.number(2));
    }

    private static void catchTakesWhatStepsAndCallsFailWith() {
        for (int kind = 1; kind <= 7; kind++) {
            UndoWorks works = new UndoWorks();
            new Flow(works, 1).scope();
            Flow flow = new Flow(works, 0).set(0, 17).set(1, -1).hold(1, 2).tries(1 << kind);
            switch (kind) {
                case 1: flow.divide(0, 2); break;
                case 2: flow.read(0, 0); break;
                case 3: flow.make(1); break;
                case 4: flow.make(0); break;
                case 5: flow.use(0); break;
                case 6: flow.use(1); break;
                default: flow.call(0, 1); break;
            }
            checks.same("kind " + kind + " by itself", 0, flow.add(3, 1).catches().add(4, 1).end().run());
            checks.numbers("kind " + kind + " by itself", works, 17, -1, 0, 0, 1, 0, 0, kind);
        }
    }

    private static void finalMeetsEveryWay() {
        for (int way = 0; way < 5; way++) {
            for (int last = 0; last < 5; last++) {
                UndoWorks works = new UndoWorks();
                Flow flow = ending(ending(begin(works).tries(0), way, false).ends().add(3, 1), last, true).end();
                String what = WAYS[way] + ", then a FINAL " + WAYS[last];
                endsSo(what, works, flow, last == GOING_ON ? way : last, last != GOING_ON);
                checks.same(what + ", how often it is done", works.number(0), works.number(3));
            }
        }
    }

    private static void finalMeetsEveryWayOfACatch() {
        for (int way = 0; way < 5; way++) {
            for (int last = 0; last < 5; last++) {
                UndoWorks works = new UndoWorks();
                Flow flow = begin(works).tries(256).fail(8).catches();
                flow = ending(ending(flow, way, false).ends().add(3, 1), last, true).end();
                String what = "a CATCH " + WAYS[way] + ", then a FINAL " + WAYS[last];
                endsSo(what, works, flow, last == GOING_ON ? way : last, last != GOING_ON);
                checks.same(what + ", how often it is done", works.number(0), works.number(3));
                checks.same(what + ", NUMBER 7", 8, works.number(7));
            }
        }
    }

    private static void muteGoesOnAllTheSame() {
        for (int way = 0; way < 5; way++) {
            UndoWorks works = new UndoWorks();
            Flow flow = ending(begin(works).mute(), way, false).add(3, 1).end();
            endsSo("MUTE of " + WAYS[way], works, flow, GOING_ON, false);
            checks.same("what is behind it in the MUTE", way == GOING_ON ? 2 : 0, works.number(3));
        }
        UndoWorks outer = new UndoWorks();
        checks.same("MUTE of leaving an outer LOOP", 0, new Flow(outer, 0).loop(2).loop(2).mute().leave(1).end().add(0, 1).end().add(1, 1).end().run());
        checks.numbers("MUTE of leaving an outer LOOP", outer, 4, 2);
    }

    private static void ifTakesWhatIsNot0() {
        for (int number : new int[] {Integer.MIN_VALUE, -1, 0, 1, Integer.MAX_VALUE}) {
            for (int i = 0; i < 8; i += 7) {
                UndoWorks works = new UndoWorks();
                new Flow(works, 0).set(i, number).when(i).add(1, 1).otherwise().add(2, 1).end().add(3, 1).run();
                checks.same("IF " + number, number != 0 ? 1 : 0, works.number(1));
                checks.same("ELSE of " + number, number != 0 ? 0 : 1, works.number(2));
                checks.same("behind it", 1, works.number(3));
            }
        }
        for (int way = 0; way < 5; way++) {
            UndoWorks works = new UndoWorks();
            endsSo("IF with " + WAYS[way], works, ending(begin(works).when(5), way, false).otherwise().fail(9).end(), way, false);
            UndoWorks other = new UndoWorks();
            endsSo("ELSE with " + WAYS[way], other, ending(begin(other).when(4).fail(9).otherwise(), way, false).end(), way, false);
        }
    }

    private static void givesEachNumber() {
        for (int i = 0; i < 8; i++) {
            for (int value : new int[] {Integer.MIN_VALUE, -1, 0, 1, Integer.MAX_VALUE}) {
                UndoWorks works = new UndoWorks();
                checks.same("GIVE", 1, new Flow(works, 0).set(i, value).give(i).run());
                checks.same("given of NUMBER " + i, value, works.given());
                checks.same("GIVE to a CALL", 0, new Flow(works, 1).call(i, 0).run());
                checks.same("what NUMBER " + i + " is", value, works.number(i));
            }
        }
    }
}
