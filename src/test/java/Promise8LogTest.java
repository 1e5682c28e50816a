/** Promise 8: log. */
public final class Promise8LogTest {
    private static final Checks checks = new Checks();

    private Promise8LogTest() {
    }

    public static void main(String[] args) {
        UndoWorks works = new UndoWorks();
        edges(works, 0);
        new Flow(works, 0).set(0, 4).note(0).note(1).hold(0, 1).use(0).add(0, -9).note(0).run();
        checks.log("in order", works, 4, 0, 1, -5);
        edges(works, 4);
        works.run(1);
        checks.log("begins anew with each run", works);
        edges(works, 0);
        works.run(0);
        new Flow(works, 2).tries(0);
        checks.refused("run of what isn't whole", () -> works.run(2));
        checks.bad("run(-1)", () -> works.run(-1));
        checks.log("neither begins it anew", works, 4, 0, 1, -5);
        new Flow(works, 3).note(0).call(1, 4).note(0).run();
        checks.log("a CALL begins nothing anew", works, -5, -5);
        Flow many = new Flow(works, 5);
        for (int i = 0; i < 60; i++) {
            many.note(0);
        }
        many.run();
        checks.same("as many as COST allows", 60, works.count(1));
        edges(works, 60);
        checks.finish();
    }

    private static void edges(UndoWorks works, int notes) {
        for (int i : new int[] {-1, notes, notes + 1, 99, 100, Integer.MIN_VALUE, Integer.MAX_VALUE}) {
            checks.bad("log(" + i + ") of " + notes, () -> works.log(i));
        }
    }
}
