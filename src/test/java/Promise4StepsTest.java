/** Promise 4: what each step does, how it FAILS, and what run answers. */
public final class Promise4StepsTest {
    private static final int MIN = Integer.MIN_VALUE;
    private static final int MAX = Integer.MAX_VALUE;
    private static final Checks checks = new Checks();

    private Promise4StepsTest() {
    }

    public static void main(String[] args) {
        answers();
        refusals();
        numbers();
        divide();
        readAndWrite();
        make();
        holdAndUse();
        ifAndElse();
        dataStays();
        checks.finish();
    }

    private static void answers() {
        UndoWorks works = new UndoWorks();
        checks.same("nothing at all", 0, works.run(0));
        checks.same("it just ended", 0, new Flow(works, 1).add(0, 1).run());
        checks.same("it gave a number", 1, new Flow(works, 2).give(0).run());
        for (int kind = 0; kind <= 9; kind++) {
            works.clear(3);
            checks.same("it FAILED with " + kind, 2 + kind, new Flow(works, 3).fail(kind).run());
        }
        checks.same("STOP", -1, new Flow(works, 4).loop(9).loop(9).end().end().run());
        checks.same("runs", 14, works.count(6));
    }

    private static void refusals() {
        UndoWorks works = new UndoWorks();
        new Flow(works, 0).set(0, 4).note(0).give(0).run();
        for (int w : new int[] {-1, 8, MIN, MAX}) {
            checks.bad("run(" + w + ")", () -> works.run(w));
        }
        for (int opener : new int[] {10, 13, 14, 15, 21}) {
            works.clear(1);
            new Flow(works, 1).set(0, 9);
            works.node(1, opener, 0, 0);
            checks.refused("run with block " + opener + " open", () -> works.run(1));
        }
        works.clear(1);
        new Flow(works, 1).tries(0).catches().ends();
        checks.refused("run with a FINAL open", () -> works.run(1));
        new Flow(works, 1).end();
        new Flow(works, 2).when(0).otherwise().scope().end();
        checks.refused("run with an ELSE open", () -> works.run(2));
        checks.same("runs", 1, works.count(6));
        checks.same("given", 4, works.given());
        checks.same("COST", 3, works.count(2));
        checks.numbers("refused", works, 4);
        checks.log("refused", works, 4);
        checks.same("whole again", 0, works.run(1));
    }

    private static void numbers() {
        UndoWorks works = new UndoWorks();
        new Flow(works, 0).add(0, 5).add(0, -7).note(0).set(1, MAX).add(1, 1).set(7, MIN).add(7, -1).note(7).note(1).run();
        checks.numbers("ADD and SET", works, -2, MIN, 0, 0, 0, 0, 0, MAX);
        checks.log("NOTE", works, -2, MAX, MIN);
    }

    private static void dividing(int dividend, int divisor, int want) {
        UndoWorks works = new UndoWorks();
        checks.same("DIVIDE", 0, new Flow(works, 0).set(2, dividend).set(5, divisor).divide(2, 5).run());
        checks.same(dividend + " by " + divisor, want, works.number(2));
        checks.same("the divisor stays", divisor, works.number(5));
    }

    private static void divide() {
        dividing(17, 5, 3);
        dividing(-17, 5, -3);
        dividing(17, -5, -3);
        dividing(-17, -5, 3);
        dividing(MIN, -1, MIN);
        dividing(0, 3, 0);
        UndoWorks works = new UndoWorks();
        checks.same("by 0", 3, new Flow(works, 0).set(0, 6).divide(0, 1).set(0, 1).run());
        checks.numbers("by 0", works, 6);
        works.clear(0);
        checks.same("by itself", 0, new Flow(works, 0).divide(0, 0).run());
        checks.numbers("by itself", works, 1);
    }

    private static void readAndWrite() {
        UndoWorks works = new UndoWorks();
        new Flow(works, 0).set(0, 7).set(1, 42).write(0, 1).read(2, 0).write(3, 0).read(4, 3).run();
        checks.numbers("READ", works, 7, 42, 42, 0, 7, 0, 0, 0);
        checks.row("WRITE", works, 7, 0, 0, 0, 0, 0, 0, 42);
        for (int place : new int[] {-1, 8, MIN, MAX}) {
            works.clear(1);
            checks.same("READ at " + place, 4, new Flow(works, 1).set(6, place).read(5, 6).run());
            works.clear(1);
            checks.same("WRITE at " + place, 4, new Flow(works, 1).set(6, place).write(6, 1).run());
            checks.same("nothing read", 0, works.number(5));
            checks.row("nothing written", works, 7, 0, 0, 0, 0, 0, 0, 42);
        }
        works.clear(1);
        checks.same("READ into its own place's NUMBER", 0, new Flow(works, 1).set(0, 7).read(0, 0).run());
        checks.numbers("READ into itself", works, 42);
    }

    private static void make() {
        UndoWorks works = new UndoWorks();
        new Flow(works, 0).set(0, 3).write(1, 0).make(0).run();
        checks.row("MAKE 3", works, 0, 0, 0);
        new Flow(works, 1).write(1, 0).set(0, 16).make(0).set(2, 15).write(2, 0).run();
        checks.row("MAKE 16", works, 0, 0, 0, 0, 0, 0, 0, 0, 0, 0, 0, 0, 0, 0, 0, 16);
        for (int places : new int[] {-1, MIN}) {
            works.clear(2);
            checks.same("MAKE " + places, 5, new Flow(works, 2).set(0, places).make(0).run());
        }
        for (int places : new int[] {17, MAX}) {
            works.clear(2);
            checks.same("MAKE " + places, 6, new Flow(works, 2).set(0, places).make(0).run());
        }
        checks.same("the ROW is the same", 16, works.row(15));
        checks.same("MAKE 0, then READ", 4, new Flow(works, 3).set(0, 0).make(0).read(1, 0).run());
        checks.row("MAKE 0", works);
        checks.same("WRITE in none", 4, new Flow(works, 4).write(0, 1).run());
        checks.same("MAKE 4", 0, new Flow(works, 5).set(0, 4).make(0).run());
        checks.row("MAKE 4", works, 0, 0, 0, 0);
    }

    private static void holdAndUse() {
        UndoWorks works = new UndoWorks();
        checks.same("USE of nothing", 7, new Flow(works, 0).use(2).run());
        checks.same("USE of a COUNTER", 0, new Flow(works, 1).hold(2, 1).use(2).use(2).hold(3, 1).use(3).use(2).run());
        checks.log("USE", works, 1, 2, 1, 3);
        checks.same("SLOT 2", 1, works.count(12));
        checks.same("USE of a MARK", 8, new Flow(works, 2).hold(3, 2).use(3).run());
        checks.same("SLOT 3", 2, works.count(13));
        checks.log("USE of a MARK", works);
        checks.same("the COUNTER stays from run to run", 0, new Flow(works, 3).use(2).run());
        checks.log("USE in a later run", works, 4);
        checks.same("a new COUNTER", 0, new Flow(works, 4).hold(2, 1).use(2).hold(2, 0).run());
        checks.log("USE of a new COUNTER", works, 1);
        checks.same("SLOT 2 with nothing", 0, works.count(12));
        checks.same("USE of nothing again", 7, new Flow(works, 5).use(2).run());
        checks.same("SLOT 0 had never any", 0, works.count(10));
    }

    private static void ifAndElse() {
        UndoWorks works = new UndoWorks();
        Flow flow = new Flow(works, 0).when(0).add(1, 1).otherwise().add(2, 1).end().when(0).add(3, 1).end();
        flow.run();
        checks.numbers("IF not", works, 0, 0, 1, 0);
        checks.same("COST of IF not", 3, works.count(2));
        new Flow(works, 1).set(0, -1).run();
        flow.run();
        checks.numbers("IF", works, -1, 1, 1, 1);
        checks.same("COST of IF", 4, works.count(2));
        new Flow(works, 2).when(0).set(0, 0).otherwise().add(4, 1).end().when(1).otherwise().add(5, 1).end().run();
        checks.numbers("IF is looked at once", works, 0, 1, 1, 1, 0, 0);
        checks.same("a WAY out of an ELSE", 6, new Flow(works, 3).when(0).otherwise().fail(4).end().add(6, 1).run());
        checks.numbers("a WAY out of an ELSE", works, 0, 1, 1, 1, 0, 0, 0);
    }

    private static void dataStays() {
        UndoWorks works = new UndoWorks();
        new Flow(works, 0).set(0, 2).write(0, 0).hold(0, 2).fail(0).run();
        new Flow(works, 1).add(0, 1).run();
        checks.numbers("NUMBERS stay, also from a run that FAILED", works, 3);
        checks.row("ROW stays", works, 0, 0, 2, 0, 0, 0, 0, 0);
        checks.same("SLOT stays", 2, works.count(10));
    }
}
