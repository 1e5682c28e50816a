/** Promise 7: row. */
public final class Promise7RowTest {
    private static final Checks checks = new Checks();

    private Promise7RowTest() {
    }

    public static void main(String[] args) {
        UndoWorks works = new UndoWorks();
        edges(works, 8);
        Flow flow = new Flow(works, 0).set(1, -9);
        for (int i = 0; i < 8; i++) {
            flow.set(0, i).add(1, 1).write(0, 1);
        }
        flow.run();
        checks.row("WRITE", works, -8, -7, -6, -5, -4, -3, -2, -1);
        for (int places : new int[] {16, 1, 0, 5}) {
            works.clear(0);
            new Flow(works, 0).set(0, places).make(0).run();
            checks.row("MAKE", works, new int[places]);
            edges(works, places);
        }
        checks.finish();
    }

    private static void edges(UndoWorks works, int places) {
        for (int i : new int[] {-1, places, places + 1, 16, Integer.MIN_VALUE, Integer.MAX_VALUE}) {
            checks.bad("row(" + i + ") of " + places, () -> works.row(i));
        }
        if (places > 0) {
            checks.same("the last place", 0, works.row(places - 1));
        }
    }
}
