import java.util.ArrayList;
import java.util.List;
import java.util.function.Consumer;

/** Terms, the last paragraph: what is bad, what is REFUSED, that bad comes first, and that such a call changes nothing. */
public final class TermsBadAndRefusedTest {
    private static final int[] BEYOND = {Integer.MIN_VALUE, -1, 8, 9, Integer.MAX_VALUE};
    private static final Checks checks = new Checks();

    private TermsBadAndRefusedTest() {
    }

    public static void main(String[] args) {
        badCallsChangeNothing();
        refusedCallsChangeNothing();
        badComesFirstInNode();
        badComesFirstInRun();
        blocksStayAsTheyWere();
        checks.finish();
    }

    /** An object with something everywhere: workflow 0 is whole, 1 is open, 2 is full. */
    private static UndoWorks used() {
        UndoWorks works = new UndoWorks();
        for (int i = 0; i < 60; i++) {
            works.node(2, 1, 0, 1);
        }
        new Flow(works, 1).loop(2).tries(2).add(0, 1).ends();
        new Flow(works, 0).set(0, 3).set(1, 4).write(0, 1).hold(1, 1).use(1).hold(2, 2).note(1)
            .mute().scope().add(2, 5).write(3, 0).scope().make(3).keep().end().fail(1).end().end().give(1);
        works.run(0);
        checks.same("undone at first", 1, works.count(4));
        checks.same("LOST at first", 1, works.count(3));
        checks.same("given at first", 4, works.given());
        return works;
    }

    private static void bad(String what, Consumer<UndoWorks> call) {
        UndoWorks works = used();
        checks.badAndChangesNothing(what, works, () -> call.accept(works));
    }

    private static void refused(String what, Consumer<UndoWorks> call) {
        UndoWorks works = used();
        checks.refusedAndChangesNothing(what, works, () -> call.accept(works));
    }

    private static void badCallsChangeNothing() {
        for (int beyond : BEYOND) {
            bad("node of workflow " + beyond, works -> works.node(beyond, 0, 0, 0));
            bad("clear(" + beyond + ")", works -> works.clear(beyond));
            bad("run(" + beyond + ")", works -> works.run(beyond));
            bad("number(" + beyond + ")", works -> works.number(beyond));
            bad("row(" + beyond + ")", works -> works.row(beyond));
            bad("log(" + beyond + ")", works -> works.log(beyond));
            bad("NUMBER " + beyond, works -> works.node(0, 1, beyond, 0));
            bad("SLOT " + beyond, works -> works.node(0, 8, beyond, 0));
            bad("b a NUMBER " + beyond, works -> works.node(0, 3, 0, beyond));
            bad("CALL of " + beyond, works -> works.node(0, 20, 0, beyond));
        }
        bad("SORT -1", works -> works.node(0, -1, 0, 0));
        bad("SORT 24", works -> works.node(0, 24, 0, 0));
        bad("SLOT 4", works -> works.node(0, 7, 4, 0));
        bad("HOLD 3", works -> works.node(0, 7, 0, 3));
        bad("FAIL 10", works -> works.node(0, 9, 0, 10));
        bad("TRY 1024", works -> works.node(0, 10, 0, 1024));
        bad("LOOP 10", works -> works.node(0, 13, 0, 10));
        bad("BREAK 10", works -> works.node(1, 17, 0, 10));
        bad("NEXT -1", works -> works.node(1, 18, 0, -1));
    }

    private static void refusedCallsChangeNothing() {
        for (int sort : new int[] {11, 12, 16, 17, 18, 22}) {
            refused("SORT " + sort + " in no block", works -> works.node(0, sort, 0, 0));
            refused("SORT " + sort + " as the 61st", works -> works.node(2, sort, 0, 0));
        }
        for (int sort : new int[] {11, 12, 22}) {
            refused("SORT " + sort + " behind FINAL", works -> works.node(1, sort, 0, 0));
        }
        for (int sort : new int[] {17, 18}) {
            refused("SORT " + sort + " with 1 in one LOOP", works -> works.node(1, sort, 0, 1));
        }
        refused("a 61st", works -> works.node(2, 0, 0, 0));
        refused("run of what isn't whole", works -> works.run(1));
    }

    /** Each is REFUSED by itself, and bad by one number more. */
    private static void badComesFirstInNode() {
        int[][] refused = {{0, 11, 0, 0}, {0, 12, 0, 0}, {0, 16, 0, 0}, {0, 22, 0, 0}, {0, 17, 0, 9}, {0, 18, 0, 9},
            {1, 17, 0, 1}, {1, 11, 0, 0}, {2, 0, 0, 0}, {2, 20, 7, 7}, {2, 10, 0, 1023}, {2, 7, 3, 2}, {2, 9, 0, 9}};
        for (int[] call : refused) {
            refused("REFUSED by itself", works -> works.node(call[0], call[1], call[2], call[3]));
            for (int w : BEYOND) {
                bad("but bad by its workflow " + w, works -> works.node(w, call[1], call[2], call[3]));
            }
        }
        bad("BREAK 10 in no LOOP", works -> works.node(0, 17, 0, 10));
        bad("NEXT 10 in no LOOP", works -> works.node(0, 18, 0, 10));
        bad("BREAK -1 behind FINAL", works -> works.node(1, 17, 0, -1));
        bad("a NUMBER 8 in a full one", works -> works.node(2, 0, 8, 0));
        bad("a SLOT 4 in a full one", works -> works.node(2, 8, 4, 0));
        bad("a workflow 8 in a full one", works -> works.node(2, 20, 0, 8));
        bad("b 1024 in a full one", works -> works.node(2, 10, 0, 1024));
        bad("SORT 24 in a full one", works -> works.node(2, 24, 0, 0));
        UndoWorks ten = new UndoWorks();
        for (int i = 0; i < 10; i++) {
            ten.node(0, 13, 0, 1);
        }
        checks.refusedAndChangesNothing("an eleventh", ten, () -> ten.node(0, 13, 0, 9));
        checks.badAndChangesNothing("an eleventh with b 10", ten, () -> ten.node(0, 13, 0, 10));
        checks.badAndChangesNothing("an eleventh with NUMBER 8", ten, () -> ten.node(0, 21, 8, 0));
    }

    private static void badComesFirstInRun() {
        for (int w = 0; w < 8; w++) {
            UndoWorks works = new UndoWorks();
            for (int each = 0; each < 8; each++) {
                works.node(each, 14, 0, 0);
            }
            int open = w;
            checks.refusedAndChangesNothing("run(" + w + ")", works, () -> works.run(open));
            checks.badAndChangesNothing("run(-1)", works, () -> works.run(-1));
            checks.badAndChangesNothing("run(8)", works, () -> works.run(8));
        }
    }

    /** NODES of one workflow; behind each of them all that can't stand there is tried, and the workflow runs as if it had not been. */
    private static void blocksStayAsTheyWere() {
        int[][] nodes = {{2, 0, 5}, {13, 0, 2}, {10, 0, 8}, {1, 1, 1}, {21, 1, 0}, {9, 0, 3}, {22, 0, 0}, {1, 2, 1}, {16, 0, 0},
            {11, 0, 0}, {1, 3, 1}, {14, 0, 0}, {1, 4, 1}, {16, 0, 0}, {12, 0, 0}, {1, 5, 1}, {16, 0, 0}, {0, 7, 0}, {16, 0, 0}, {19, 0, 0}};
        // What can't stand behind so many of them: out of any block, in the LOOP, in the TRY, in the IF, ..
        int[][] refused = {{11, 12, 16, 22, 17, 18}, {11, 12, 16, 22, 17, 18}, {11, 12, 22}, {22}, {22}, {11, 12}, {11, 12}, {11, 12, 22},
            {11, 12, 22}, {22}, {11, 22}, {11, 22}, {11, 12, 22}, {11, 12, 22}, {11, 22}, {11, 12, 22}, {11, 12, 22}, {11, 12, 22},
            {11, 12, 22}, {11, 12, 16, 22, 17, 18}, {11, 12, 16, 22, 17, 18}};
        UndoWorks plain = new UndoWorks();
        UndoWorks tried = new UndoWorks();
        List<Integer> answers = new ArrayList<>();
        for (int i = 0; i <= nodes.length; i++) {
            for (int sort : refused[i]) {
                checks.refused("SORT " + sort + " behind " + i + " NODES", () -> tried.node(3, sort, 0, 0));
            }
            checks.refused("BREAK 9 behind " + i + " NODES", () -> tried.node(3, 17, 0, 9));
            checks.bad("SORT 24 behind " + i + " NODES", () -> tried.node(3, 24, 0, 0));
            checks.bad("FAIL 10 behind " + i + " NODES", () -> tried.node(3, 9, 0, 10));
            if (i < nodes.length) {
                int[] n = nodes[i];
                answers.add(plain.node(3, n[0], n[1], n[2]));
                checks.same("NODES", i + 1, tried.node(3, n[0], n[1], n[2]));
            }
        }
        checks.same("NODES in the end", nodes.length, answers.get(nodes.length - 1));
        checks.same("run", 1, plain.run(3));
        checks.same("run behind all that was REFUSED", 1, tried.run(3));
        checks.holds("all is the same", Checks.allOf(plain).equals(Checks.allOf(tried)));
        checks.numbers("and as it is due", tried, 5, 2, 0, 2, 2, 2, 0, 3);
    }
}
