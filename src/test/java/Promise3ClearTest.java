/** Promise 3: clear. */
public final class Promise3ClearTest {
    private Promise3ClearTest() {
    }

    public static void main(String[] args) {
        Checks checks = new Checks();
        UndoWorks works = new UndoWorks();
        new Flow(works, 0).set(0, 5).give(0).run();
        new Flow(works, 1).add(1, 1).add(1, 1);
        works.clear(0);
        checks.same("NODES of the other", 2, works.count(5));
        checks.same("number(0) stays", 5, works.number(0));
        checks.same("given() stays", 5, works.given());
        checks.same("run of what is cleared", 0, works.run(0));
        checks.same("its COST", 0, works.count(2));
        checks.same("a first one again", 1, works.node(0, 0, 0, 0));
        openBlocksAreGone(checks);
        eachOfTheEight(checks);
        for (int w : new int[] {-1, 8, Integer.MIN_VALUE, Integer.MAX_VALUE}) {
            checks.bad("clear(" + w + ")", () -> works.clear(w));
        }
        checks.same("NODES after bad ones", 3, works.count(5));
        works.clear(7);
        works.clear(1);
        checks.same("NODES after two more", 1, works.count(5));
        checks.finish();
    }

    private static void openBlocksAreGone(Checks checks) {
        UndoWorks works = new UndoWorks();
        Flow flow = new Flow(works, 2);
        for (int i = 0; i < 10; i++) {
            flow.loop(1);
        }
        checks.refused("run of what isn't whole", () -> works.run(2));
        works.clear(2);
        checks.refused("END", () -> works.node(2, 16, 0, 0));
        checks.refused("BREAK", () -> works.node(2, 17, 0, 0));
        checks.same("it is whole", 0, works.run(2));
        for (int i = 1; i <= 10; i++) {
            checks.same("block " + i, i, works.node(2, 14, 0, 0));
        }
        works.clear(2);
        for (int i = 1; i <= 60; i++) {
            works.node(2, 1, 0, 1);
        }
        works.clear(2);
        checks.same("room again", 1, works.node(2, 1, 0, 1));
    }

    private static void eachOfTheEight(Checks checks) {
        for (int cleared = 0; cleared < 8; cleared++) {
            UndoWorks works = new UndoWorks();
            for (int w = 0; w < 8; w++) {
                new Flow(works, w).set(0, 10 + w).give(0);
            }
            works.clear(cleared);
            checks.same("NODES behind clear(" + cleared + ")", 14, works.count(5));
            for (int w = 0; w < 8; w++) {
                checks.same("run(" + w + ") behind clear(" + cleared + ")", w == cleared ? 0 : 1, works.run(w));
                checks.same("what " + w + " gave", w == cleared ? 0 : 10 + w, works.given());
            }
            works.clear(cleared);
            checks.same("clear of an empty one", 14, works.count(5));
            checks.same("runs are no NODES", 8, works.count(6));
        }
    }
}
