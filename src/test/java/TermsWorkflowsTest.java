/** Terms, WORKFLOWS: at most 60 NODES, at most 10 blocks in one another, and the parts that may be left out. */
public final class TermsWorkflowsTest {
    private static final int[] OPENERS = {10, 13, 14, 15, 21};
    private static final Checks checks = new Checks();

    private TermsWorkflowsTest() {
    }

    public static void main(String[] args) {
        sixtyInEachOfEight();
        everySortMayBeTheSixtieth();
        tenInOneAnotherOfEachBlock();
        anEleventhInAnyPart();
        behindOneAnotherIsNotInOneAnother();
        tenInOneAnotherAreRun();
        catchAndFinalMayBeLeftOut();
        elseMayBeLeftOut();
        emptyBlocksGoOn();
        checks.finish();
    }

    private static void sixtyInEachOfEight() {
        UndoWorks works = new UndoWorks();
        for (int w = 0; w < 8; w++) {
            for (int i = 1; i <= 60; i++) {
                checks.same("NODE " + i + " of workflow " + w, i, works.node(w, 1, w, 1));
            }
            int full = w;
            checks.refused("the 61st of workflow " + w, () -> works.node(full, 1, 0, 1));
        }
        checks.same("NODES in all workflows", 480, works.count(5));
        checks.same("all sixty of workflow 7 are run", 0, works.run(7));
        checks.same("NUMBER 7", 60, works.number(7));
    }

    /** The workflow, with what the SORT needs around it and NODES in it so that this many stand there. */
    private static Flow with(UndoWorks works, int sort, int many) {
        Flow flow = new Flow(works, 0);
        int opener = sort == 11 || sort == 12 ? 10 : sort == 17 || sort == 18 ? 13 : sort == 22 ? 21 : 14;
        flow.put(opener, 0, 0);
        for (int i = 1; i < many; i++) {
            flow.note(0);
        }
        return flow;
    }

    private static void everySortMayBeTheSixtieth() {
        for (int sort = 0; sort < 24; sort++) {
            int each = sort;
            UndoWorks room = new UndoWorks();
            with(room, sort, 59);
            checks.same("SORT " + sort + " as the 60th", 60, room.node(0, sort, 0, 0));
            UndoWorks full = new UndoWorks();
            with(full, sort, 60);
            checks.refusedAndChangesNothing("SORT " + sort + " as the 61st", full, () -> full.node(0, each, 0, 0));
            full.clear(0);
            checks.same("a first one behind clear", 1, full.node(0, 0, 0, 0));
        }
    }

    private static void tenInOneAnotherOfEachBlock() {
        for (int opener : OPENERS) {
            for (int eleventh : OPENERS) {
                UndoWorks works = new UndoWorks();
                for (int i = 1; i <= 10; i++) {
                    checks.same("block " + i, i, works.node(0, opener, 0, 0));
                }
                checks.refusedAndChangesNothing("block " + eleventh + " in ten of " + opener, works, () -> works.node(0, eleventh, 0, 0));
                checks.same("what is no block may stand in ten", 11, works.node(0, 1, 0, 1));
                checks.same("END", 12, works.node(0, 16, 0, 0));
                checks.same("a tenth once more", 13, works.node(0, eleventh, 0, 0));
                checks.refused("an eleventh once more", () -> works.node(0, opener, 0, 0));
                checks.same("another workflow has its own ten", 1, works.node(1, eleventh, 0, 0));
            }
        }
    }

    private static void anEleventhInAnyPart() {
        int[][] parts = {{10, 11}, {10, 12}, {10, 11, 12}, {21, 22}};
        for (int[] part : parts) {
            UndoWorks works = new UndoWorks();
            Flow flow = new Flow(works, 0);
            for (int i = 0; i < 9; i++) {
                flow.scope();
            }
            for (int sort : part) {
                flow.put(sort, 0, 0);
            }
            String where = "in part " + part[part.length - 1] + " of the tenth";
            checks.refusedAndChangesNothing("an eleventh " + where, works, () -> works.node(0, 14, 0, 0));
            checks.same("END " + where, 10 + part.length, works.node(0, 16, 0, 0));
            checks.same("a tenth behind it", 11 + part.length, works.node(0, 14, 0, 0));
        }
    }

    private static void behindOneAnotherIsNotInOneAnother() {
        UndoWorks works = new UndoWorks();
        for (int i = 1; i <= 30; i++) {
            works.node(0, OPENERS[i % 5], 0, 0);
            checks.same("END of block " + i, 2 * i, works.node(0, 16, 0, 0));
        }
        checks.same("thirty behind one another are whole", 0, works.run(0));
        checks.same("their COST", 30, works.count(2));
    }

    private static void tenInOneAnotherAreRun() {
        UndoWorks works = new UndoWorks();
        new Flow(works, 0).set(0, 1).tries(0).loop(1).scope().mute().when(0).tries(0).loop(1).scope().mute().when(0)
            .add(1, 1).ends(10).add(2, 1);
        checks.same("ten in one another", 0, works.run(0));
        checks.numbers("ten in one another", works, 1, 1, 1);
        checks.same("SET, ten blocks, two rounds, two ADDS", 15, works.count(2));
        UndoWorks scopes = new UndoWorks();
        Flow flow = new Flow(scopes, 0);
        for (int i = 0; i < 10; i++) {
            flow.scope().add(i % 8, 1 + i);
        }
        checks.same("ten SCOPES FAIL", 3, flow.fail(1).ends(10).run());
        checks.numbers("ten SCOPES undo", scopes, 0, 0, 0, 0, 0, 0, 0, 0);
        checks.same("ten are undone", 10, scopes.count(4));
    }

    private static void catchAndFinalMayBeLeftOut() {
        for (int parts = 0; parts < 4; parts++) {
            boolean hasCatch = (parts & 1) != 0;
            boolean hasFinal = (parts & 2) != 0;
            UndoWorks works = new UndoWorks();
            Flow flow = new Flow(works, 0).tries(8).add(0, 1).fail(3);
            if (hasCatch) {
                flow.catches().add(1, 1);
            }
            if (hasFinal) {
                flow.ends().add(2, 1);
            }
            String what = "TRY" + (hasCatch ? " CATCH" : "") + (hasFinal ? " FINAL" : "");
            checks.refused(what + " without its END", () -> works.run(0));
            checks.same(what, hasCatch ? 0 : 5, flow.end().add(3, 1).run());
            checks.numbers(what, works, 1, hasCatch ? 1 : 0, hasFinal ? 1 : 0, hasCatch ? 1 : 0, 0, 0, 0, hasCatch ? 3 : 0);
        }
    }

    private static void elseMayBeLeftOut() {
        for (int number = 0; number <= 1; number++) {
            UndoWorks works = new UndoWorks();
            checks.same("IF without ELSE", 0, new Flow(works, 0).set(0, number).when(0).add(1, 1).end().add(2, 1).run());
            checks.numbers("IF without ELSE", works, number, number, 1);
            UndoWorks both = new UndoWorks();
            checks.same("IF with ELSE", 0, new Flow(both, 0).set(0, number).when(0).add(1, 1).otherwise().add(2, 1).end().add(3, 1).run());
            checks.numbers("IF with ELSE", both, number, number, 1 - number, 1);
        }
    }

    private static void emptyBlocksGoOn() {
        UndoWorks works = new UndoWorks();
        new Flow(works, 0).tries(1023).end().tries(1023).catches().end().tries(0).ends().end().tries(0).catches().ends().end()
            .loop(2).end().scope().end().mute().end().when(0).end().when(0).otherwise().end().add(0, 1);
        checks.same("empty blocks", 0, works.run(0));
        checks.numbers("what comes behind them", works, 1, 0, 0, 0, 0, 0, 0, 0);
        checks.same("nine blocks, two rounds, ADD", 12, works.count(2));
        checks.same("an empty CATCH takes it all the same", 0, new Flow(works, 1).tries(2).fail(1).catches().end().add(0, 1).run());
        checks.numbers("an empty CATCH", works, 2, 0, 0, 0, 0, 0, 0, 1);
        checks.same("an empty FINAL keeps the WAY", 4, new Flow(works, 2).tries(0).fail(2).ends().end().add(0, 1).run());
        checks.numbers("an empty FINAL", works, 2);
    }
}
