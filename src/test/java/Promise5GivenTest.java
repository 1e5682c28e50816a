/** Promise 5: given. */
public final class Promise5GivenTest {
    private Promise5GivenTest() {
    }

    public static void main(String[] args) {
        Checks checks = new Checks();
        UndoWorks works = new UndoWorks();
        checks.same("no run yet", 0, works.given());
        new Flow(works, 0).add(0, 12).give(0).run();
        checks.same("it gave", 12, works.given());
        works.run(0);
        checks.same("the latest run gave", 24, works.given());
        works.run(1);
        checks.same("it just ended", 0, works.given());
        works.run(0);
        new Flow(works, 1).fail(3).run();
        checks.same("it FAILED", 0, works.given());
        works.run(0);
        new Flow(works, 2).loop(9).loop(9).end().end().give(0).run();
        checks.same("STOP", 0, works.given());
        works.run(0);
        checks.bad("run(8)", () -> works.run(8));
        new Flow(works, 3).scope();
        checks.refused("run of what isn't whole", () -> works.run(3));
        checks.same("neither changes it", 60, works.given());
        new Flow(works, 4).call(1, 0).run();
        checks.same("what was called gave, the run didn't", 0, works.given());
        checks.same("NUMBER 1", 72, works.number(1));
        checks.same("giving 0", 1, new Flow(works, 5).give(2).run());
        checks.same("0 was given", 0, works.given());
        checks.same("giving below 0", 1, new Flow(works, 6).set(3, -1).give(3).run());
        checks.same("-1 was given", -1, works.given());
        checks.finish();
    }
}
