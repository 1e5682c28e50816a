/** Promise 9: count. */
public final class Promise9CountTest {
    private Promise9CountTest() {
    }

    public static void main(String[] args) {
        Checks checks = new Checks();
        UndoWorks works = new UndoWorks();
        new Flow(works, 0).set(0, 5).note(0).note(0).hold(0, 1).hold(2, 2).hold(3, 1).run();
        new Flow(works, 7).scope().write(0, 0).scope().set(1, 3).make(1).keep().end().add(2, 1).add(2, 1).fail(0).end();
        checks.same("FAILS", 2, works.run(7));
        int[] due = {3, 0, 9, 1, 2, 17, 2};
        for (int what = 0; what < due.length; what++) {
            checks.same("count(" + what + ")", due[what], works.count(what));
        }
        checks.same("count(10)", 1, works.count(10));
        checks.same("count(11)", 0, works.count(11));
        checks.same("count(12)", 2, works.count(12));
        checks.same("count(13)", 1, works.count(13));
        for (int what : new int[] {-1, 7, 8, 9, 14, 15, 100, Integer.MIN_VALUE, Integer.MAX_VALUE}) {
            checks.same("count(" + what + ")", -1, works.count(what));
        }
        works.run(0);
        checks.same("LOG's ints of the latest run", 2, works.count(1));
        checks.same("COST of the latest run", 6, works.count(2));
        checks.same("LOST in all runs", 1, works.count(3));
        checks.same("undone in all runs", 2, works.count(4));
        checks.same("runs", 3, works.count(6));
        works.clear(0);
        checks.same("NODES", 11, works.count(5));
        checks.same("ROW's places stay", 3, works.count(0));
        othersAreMinusOne(checks);
        runsHoweverTheyEnd(checks);
        slotsFromTheFirstToTheLast(checks);
        checks.finish();
    }

    private static void othersAreMinusOne(Checks checks) {
        UndoWorks works = new UndoWorks();
        for (int what = -40; what <= 40; what++) {
            boolean named = what >= 0 && what <= 6 || what >= 10 && what <= 13;
            checks.same("count(" + what + ") of a new object", what == 0 ? 8 : named ? 0 : -1, works.count(what));
        }
        checks.same("the least int", -1, works.count(Integer.MIN_VALUE));
        checks.same("the greatest int", -1, works.count(Integer.MAX_VALUE));
    }

    private static void runsHoweverTheyEnd(Checks checks) {
        UndoWorks works = new UndoWorks();
        new Flow(works, 1).give(0);
        new Flow(works, 2).fail(9);
        new Flow(works, 3).burn(60).note(0);
        new Flow(works, 4).call(0, 0).call(0, 1);
        new Flow(works, 5).scope();
        int[] due = {0, 1, 11, -1, 0};
        for (int w = 0; w <= 4; w++) {
            checks.same("run(" + w + ")", due[w], works.run(w));
            checks.same("runs behind run(" + w + ")", w + 1, works.count(6));
        }
        checks.refused("run(5)", () -> works.run(5));
        checks.bad("run(8)", () -> works.run(8));
        checks.bad("run(-1)", () -> works.run(-1));
        checks.same("runs that were REFUSED or bad are none", 5, works.count(6));
    }

    private static void slotsFromTheFirstToTheLast(Checks checks) {
        for (int slot = 0; slot < 4; slot++) {
            for (int held = 0; held <= 2; held++) {
                UndoWorks works = new UndoWorks();
                new Flow(works, 0).hold(slot, held).run();
                for (int what = 9; what <= 14; what++) {
                    int due = what == 9 || what == 14 ? -1 : what == 10 + slot ? held : 0;
                    checks.same("count(" + what + ") with " + held + " in SLOT " + slot, due, works.count(what));
                }
            }
        }
    }
}
