import java.lang.reflect.Field;
import java.lang.reflect.Method;

/** Terms, NOTES: LOG has at most 100 ints, more are lost, and it begins anew with each run. */
public final class TermsNotesTest {
    private static final Checks checks = new Checks();

    private TermsNotesTest() {
    }

    public static void main(String[] args) throws ReflectiveOperationException {
        sixtyByCost();
        aHundredAndNoMore();
        beginsAnewWithEachRun();
        staysWithoutARun();
        notUndone();
        checks.finish();
    }

    /** COST lets a run make no more than these. */
    private static void sixtyByCost() {
        UndoWorks works = new UndoWorks();
        Flow flow = new Flow(works, 0);
        for (int i = 0; i < 30; i++) {
            flow.add(0, 1).note(0);
        }
        new Flow(works, 1).loop(9).note(1).note(1).note(1).note(1).note(1).end().note(1).note(1).note(1).note(1).note(1).note(1);
        checks.same("thirty NOTES", 0, works.run(0));
        for (int i = 0; i < 30; i++) {
            checks.same("log(" + i + ")", i + 1, works.log(i));
        }
        checks.bad("log(30)", () -> works.log(30));
        checks.same("NOTES up to STOP", -1, works.run(1));
        checks.same("LOG's ints by STOP", 50, works.count(1));
        UndoWorks sixty = new UndoWorks();
        Flow notes = new Flow(sixty, 0);
        for (int i = 0; i < 60; i++) {
            notes.note(0);
        }
        checks.same("sixty NOTES", 0, notes.run());
        checks.same("LOG's ints", 60, sixty.count(1));
        checks.same("log(59)", 0, sixty.log(59));
        checks.bad("log(60)", () -> sixty.log(60));
    }

    /** No run can come to 100 NOTES, for COST ends it at 60; so the LOG itself is asked, from inside. */
    private static void aHundredAndNoMore() throws ReflectiveOperationException {
        UndoWorks works = new UndoWorks();
        Field field = UndoWorks.class.getDeclaredField("data");
        field.setAccessible(true);
        Object data = field.get(works);
        Method take = data.getClass().getDeclaredMethod("takeNote", int.class);
        take.setAccessible(true);
        for (int i = 0; i < 100; i++) {
            take.invoke(data, 1000 + i);
        }
        checks.same("a hundred", 100, works.count(1));
        checks.same("the first", 1000, works.log(0));
        checks.same("the hundredth", 1099, works.log(99));
        take.invoke(data, 7);
        take.invoke(data, 8);
        checks.same("more are lost", 100, works.count(1));
        checks.same("the first stays", 1000, works.log(0));
        checks.same("the hundredth stays", 1099, works.log(99));
        checks.bad("log(100)", () -> works.log(100));
        checks.same("a run", 0, new Flow(works, 0).set(0, 3).note(0).run());
        checks.log("begins anew behind a full one", works, 3);
    }

    private static void beginsAnewWithEachRun() {
        UndoWorks works = new UndoWorks();
        Flow flow = new Flow(works, 0).add(0, 1).note(0).note(0);
        for (int run = 1; run <= 3; run++) {
            flow.run();
            checks.log("run " + run, works, run, run);
        }
        checks.same("an empty run", 0, works.run(1));
        checks.log("an empty run", works);
        checks.bad("log(0) of none", () -> works.log(0));
        flow.run();
        checks.same("a run that FAILS at once", 2, new Flow(works, 2).fail(0).run());
        checks.log("a run that FAILS at once", works);
        checks.same("a run that FAILS later", 2, new Flow(works, 3).note(0).fail(0).run());
        checks.log("what it noted before stays", works, 4);
    }

    private static void staysWithoutARun() {
        UndoWorks works = new UndoWorks();
        new Flow(works, 0).set(0, 5).note(0).note(1).run();
        new Flow(works, 1).scope();
        works.clear(0);
        checks.refused("run of what isn't whole", () -> works.run(1));
        checks.bad("run(8)", () -> works.run(8));
        checks.log("LOG stays", works, 5, 0);
    }

    private static void notUndone() {
        UndoWorks works = new UndoWorks();
        new Flow(works, 0).hold(0, 1).scope().add(0, 6).note(0).use(0).fail(1).end().run();
        checks.log("LOG isn't undone", works, 6, 1);
        checks.same("undone", 1, works.count(4));
    }
}
