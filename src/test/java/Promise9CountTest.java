/** Promise 9: count. */
public final class Promise9CountTest {
    private Promise9CountTest() {
    }

    public static void main(String[] args) {
        Checks checks = new Checks();
        UndoWorks works = new UndoWorks();
        new Flow(works, 0).set(0, 5).note(0).note(0).hold(0, 1).hold(2, 2).hold(3, 1).run();
        new Flow(works, 7).scope().write(0, 0).scope().set(1, 3).make(1).keep().end().add(2, 1).add(2, 1).fail(0).end();
        checks.same("FAILS", 2, works.run(7));
        int[] due = {3, 0, 9, 1, 2, 17, 2};
        for (int what = 0; what < due.length; what++) {
            checks.same("count(" + what + ")", due[what], works.count(what));
        }
        checks.same("count(10)", 1, works.count(10));
        checks.same("count(11)", 0, works.count(11));
        checks.same("count(12)", 2, works.count(12));
        checks.same("count(13)", 1, works.count(13));
        for (int what : new int[] {-1, 7, 8, 9, 14, 15, 100, Integer.MIN_VALUE, Integer.MAX_VALUE}) {
            checks.same("count(" + what + ")", -1, works.count(what));
        }
        works.run(0);
        checks.same("LOG's ints of the latest run", 2, works.count(1));
        checks.same("COST of the latest run", 6, works.count(2));
        checks.same("LOST in all runs", 1, works.count(3));
        checks.same("undone in all runs", 2, works.count(4));
        checks.same("runs", 3, works.count(6));
        works.clear(0);
        checks.same("NODES", 11, works.count(5));
        checks.same("ROW's places stay", 3, works.count(0));
        checks.finish();
    }
}
