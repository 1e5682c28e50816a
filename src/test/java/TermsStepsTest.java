/** Terms, SORTS 0 .. 9: for each step the last number that goes, the first that FAILS, and that a step that FAILS changes nothing. */
public final class TermsStepsTest {
    private static final int MIN = Integer.MIN_VALUE;
    private static final int MAX = Integer.MAX_VALUE;
    private static final Checks checks = new Checks();

    private TermsStepsTest() {
    }

    public static void main(String[] args) {
        noteOfTheFirstAndTheLastNumber();
        addAndSetTakeAnyInt();
        divideBy0();
        divideCuts();
        readAtThePlaceThatIsNotThere();
        writeAtThePlaceThatIsNotThere();
        makeBelow0AndAbove16();
        makeAllZero();
        holdEachOverEach();
        useOfNothingAndOfAMark();
        failWithTheFirstAndTheLastKind();
        checks.finish();
    }

    /** Runs workflow 0, and then in a run of its own one NODE that FAILS: that alone changes nothing. */
    private static void failsAndChangesNothing(String what, int kind, UndoWorks works, int sort, int a, int b) {
        works.run(0);
        works.run(6);
        String before = Checks.allOf(works);
        works.node(7, sort, a, b);
        checks.same(what, 2 + kind, works.run(7));
        checks.same(what + ", its COST", 1, works.count(2));
        checks.same(what + ", LOG's ints", 0, works.count(1));
        works.clear(7);
        // An empty run, as before: COST and LOG are what they were, and only the runs are two more.
        works.run(6);
        checks.holds(what + ": it changes nothing", before.replace("count(6) 2", "count(6) 4").equals(Checks.allOf(works)));
    }

    private static void noteOfTheFirstAndTheLastNumber() {
        for (int i = 0; i < 8; i++) {
            UndoWorks works = new UndoWorks();
            new Flow(works, 0).set(i, 30 + i).note(i).run();
            checks.log("NOTE of NUMBER " + i, works, 30 + i);
        }
    }

    private static void addAndSetTakeAnyInt() {
        for (int b : new int[] {MIN, -1, 0, 1, 8, 10, 1024, MAX}) {
            UndoWorks works = new UndoWorks();
            checks.same("ADD and SET of " + b, 0, new Flow(works, 0).set(0, 7).set(0, b).add(7, b).run());
            checks.numbers("ADD and SET of " + b, works, b, 0, 0, 0, 0, 0, 0, b);
        }
    }

    private static void divideBy0() {
        for (int dividend : new int[] {MIN, -1, 0, 1, MAX}) {
            UndoWorks works = new UndoWorks();
            new Flow(works, 0).set(0, dividend);
            failsAndChangesNothing(dividend + " by 0 FAILS 1", 1, works, 3, 0, 1);
        }
        UndoWorks itself = new UndoWorks();
        failsAndChangesNothing("0 by itself FAILS 1", 1, itself, 3, 7, 7);
    }

    private static void divideCuts() {
        int[][] rows = {{7, 2, 3}, {-7, 2, -3}, {7, -2, -3}, {-7, -2, 3}, {1, 2, 0}, {-1, 2, 0}, {0, -1, 0},
            {5, 1, 5}, {5, -1, -5}, {MAX, -1, -MAX}, {MIN, 1, MIN}, {MIN, -1, MIN}, {MIN, MIN, 1}, {MAX, MIN, 0}, {MIN, MAX, -1}};
        for (int[] row : rows) {
            UndoWorks works = new UndoWorks();
            checks.same("DIVIDE", 0, new Flow(works, 0).set(0, row[0]).set(7, row[1]).divide(0, 7).run());
            checks.same(row[0] + " by " + row[1] + " is cut", row[2], works.number(0));
            checks.same("the other stays", row[1], works.number(7));
        }
    }

    /** A new object whose ROW has so many places, each with its number and 100 more. */
    private static UndoWorks filled(int places) {
        UndoWorks works = new UndoWorks();
        new Flow(works, 0).set(0, places).make(0).set(0, 0).set(1, 100).run();
        Flow fill = new Flow(works, 1).write(0, 1).add(0, 1).add(1, 1);
        int[] want = new int[places];
        for (int i = 0; i < places; i++) {
            fill.run();
            want[i] = 100 + i;
        }
        checks.row("filled", works, want);
        works.clear(0);
        works.clear(1);
        return works;
    }

    private static void readAtThePlaceThatIsNotThere() {
        for (int places : new int[] {0, 1, 7, 8, 9, 16}) {
            for (int place : new int[] {MIN, -1, places, places + 1, 16, MAX}) {
                UndoWorks works = filled(places);
                checks.same("READ at " + place + " of " + places + " FAILS 2", 4, new Flow(works, 2).set(2, place).set(3, 5).read(3, 2).run());
                checks.same("the NUMBER is what it was", 5, works.number(3));
            }
            for (int place : new int[] {0, places - 1}) {
                if (place < places && place >= 0) {
                    UndoWorks works = filled(places);
                    checks.same("READ at " + place + " of " + places, 0, new Flow(works, 2).set(2, place).read(3, 2).run());
                    checks.same("what is read at " + place + " of " + places, 100 + place, works.number(3));
                }
            }
        }
    }

    private static void writeAtThePlaceThatIsNotThere() {
        for (int places : new int[] {0, 1, 7, 8, 9, 16}) {
            for (int place : new int[] {MIN, -1, places, places + 1, 16, MAX}) {
                UndoWorks works = filled(places);
                checks.same("WRITE at " + place + " of " + places + " FAILS 2", 4, new Flow(works, 2).set(2, place).set(3, 5).write(2, 3).run());
                checks.same("places", places, works.count(0));
                for (int i = 0; i < places; i++) {
                    checks.same("place " + i + " is what it was", 100 + i, works.row(i));
                }
            }
            for (int place : new int[] {0, places - 1}) {
                if (place < places && place >= 0) {
                    UndoWorks works = filled(places);
                    checks.same("WRITE at " + place + " of " + places, 0, new Flow(works, 2).set(2, place).set(3, 5).write(2, 3).run());
                    for (int i = 0; i < places; i++) {
                        checks.same("place " + i + " behind a WRITE at " + place, i == place ? 5 : 100 + i, works.row(i));
                    }
                }
            }
        }
    }

    private static void makeBelow0AndAbove16() {
        for (int places : new int[] {-1, -2, MIN}) {
            UndoWorks works = new UndoWorks();
            new Flow(works, 0).set(1, 4).write(1, 1).set(0, places);
            failsAndChangesNothing("MAKE of " + places + " FAILS 3", 3, works, 6, 0, 0);
        }
        for (int places : new int[] {17, 18, MAX}) {
            UndoWorks works = new UndoWorks();
            new Flow(works, 0).set(1, 4).write(1, 1).set(0, places);
            failsAndChangesNothing("MAKE of " + places + " FAILS 4", 4, works, 6, 0, 0);
        }
        for (int places = 0; places <= 16; places++) {
            UndoWorks works = new UndoWorks();
            checks.same("MAKE of " + places, 0, new Flow(works, 0).set(7, places).make(7).run());
            checks.row("MAKE of " + places, works, new int[places]);
            checks.same("its NUMBER stays", places, works.number(7));
        }
    }

    private static void makeAllZero() {
        for (int places : new int[] {0, 1, 8, 16}) {
            UndoWorks works = filled(8);
            new Flow(works, 0).set(0, places).make(0).run();
            checks.row("a new ROW over a full one", works, new int[places]);
            works.clear(0);
            new Flow(works, 0).set(0, 16).make(0).run();
            checks.row("nothing of the full one comes back", works, new int[16]);
        }
    }

    private static void holdEachOverEach() {
        for (int slot = 0; slot < 4; slot++) {
            for (int had = 0; had <= 2; had++) {
                for (int has = 0; has <= 2; has++) {
                    UndoWorks works = new UndoWorks();
                    checks.same("HOLD", 0, new Flow(works, 0).hold(slot, had).hold(slot, has).run());
                    for (int i = 0; i < 4; i++) {
                        checks.same("SLOT " + i + " behind HOLD " + had + " and " + has + " in " + slot, i == slot ? has : 0, works.count(10 + i));
                    }
                    int want = has == 0 ? 7 : has == 1 ? 0 : 8;
                    checks.same("USE behind HOLD " + had + " and " + has, want, new Flow(works, 1).use(slot).run());
                }
            }
        }
    }

    private static void useOfNothingAndOfAMark() {
        for (int slot = 0; slot < 4; slot++) {
            UndoWorks nothing = new UndoWorks();
            new Flow(nothing, 0).hold((slot + 1) % 4, 1).hold((slot + 3) % 4, 1);
            failsAndChangesNothing("USE of nothing in " + slot + " FAILS 5", 5, nothing, 8, slot, 0);
            UndoWorks mark = new UndoWorks();
            new Flow(mark, 0).hold((slot + 1) % 4, 1).hold(slot, 2);
            failsAndChangesNothing("USE of a MARK in " + slot + " FAILS 6", 6, mark, 8, slot, 0);
            UndoWorks counter = new UndoWorks();
            checks.same("USE of a COUNTER in " + slot, 0, new Flow(counter, 0).hold(slot, 1).use(slot).use(slot).run());
            checks.log("LOG gets it when it is one more", counter, 1, 2);
        }
    }

    private static void failWithTheFirstAndTheLastKind() {
        for (int kind = 0; kind <= 9; kind++) {
            UndoWorks works = new UndoWorks();
            failsAndChangesNothing("FAIL " + kind, kind, works, 9, 0, kind);
        }
    }
}
