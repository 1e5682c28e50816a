/** Promise 1: a new object has no NODES, and DATA as it is at first. */
public final class Promise1NewObjectTest {
    private Promise1NewObjectTest() {
    }

    public static void main(String[] args) {
        Checks checks = new Checks();
        UndoWorks works = new UndoWorks();
        for (int what = 1; what <= 6; what++) {
            checks.same("count(" + what + ")", 0, works.count(what));
        }
        for (int what = 10; what <= 13; what++) {
            checks.same("count(" + what + ")", 0, works.count(what));
        }
        checks.numbers("new", works, 0, 0, 0, 0, 0, 0, 0, 0);
        checks.row("new", works, 0, 0, 0, 0, 0, 0, 0, 0);
        checks.log("new", works);
        checks.same("given", 0, works.given());
        for (int w = 0; w < 8; w++) {
            checks.same("run of workflow " + w + " without NODES", 0, works.run(w));
            checks.same("its COST", 0, works.count(2));
        }
        objectsShareNothing(checks);
        checks.finish();
    }

    private static void objectsShareNothing(Checks checks) {
        UndoWorks one = new UndoWorks();
        new Flow(one, 0).set(0, 5).hold(1, 1).write(1, 0).note(0).give(0).run();
        UndoWorks other = new UndoWorks();
        checks.same("NODES of another object", 0, other.count(5));
        checks.same("runs of another object", 0, other.count(6));
        checks.same("SLOT 1 of another object", 0, other.count(11));
        checks.numbers("another object", other, 0, 0, 0, 0, 0, 0, 0, 0);
        checks.row("another object", other, 0, 0, 0, 0, 0, 0, 0, 0);
    }
}
