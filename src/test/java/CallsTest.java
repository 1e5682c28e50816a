/** What it is: an object is used for 512 calls, and answers the last of them as well as the first. */
public final class CallsTest {
    private static final int CALLS = 512;
    private static final Checks checks = new Checks();

    private CallsTest() {
    }

    public static void main(String[] args) {
        allNodes();
        allRuns();
        allBad();
        allRefused();
        allLooks();
        checks.finish();
    }

    /** 480 NODES have room; the calls behind them are REFUSED. */
    private static void allNodes() {
        UndoWorks works = new UndoWorks();
        for (int call = 0; call < CALLS - 1; call++) {
            int w = call % 8;
            int there = call / 8;
            if (there < 60) {
                checks.same("NODES in workflow " + w, there + 1, works.node(w, 0, 0, 0));
            } else {
                checks.refused("a NODE behind the sixtieth", () -> works.node(w, 0, 0, 0));
            }
        }
        checks.same("NODES in all, the last call", 480, works.count(5));
    }

    /** Each run makes rows and boxes and undoes them all, as much as COST lets it. */
    private static void allRuns() {
        UndoWorks works = new UndoWorks();
        new Flow(works, 0).scope().set(0, 16).loop(9).make(0).write(1, 0).hold(0, 1).hold(1, 2).add(2, 1).end().fail(9).end();
        int written = works.count(5);
        int looks = 6;
        int runs = CALLS - written - looks;
        for (int run = 0; run < runs; run++) {
            checks.same("run " + run, 11, works.run(0));
        }
        checks.same("COST", 1 + 1 + 1 + 9 * 6 + 1, works.count(2));
        checks.same("undone", runs * (1 + 9 * 5), works.count(4));
        checks.same("runs", runs, works.count(6));
        checks.same("places", 8, works.count(0));
        checks.same("NUMBER 2, the last call", 0, works.number(2));
    }

    private static void allBad() {
        UndoWorks works = new UndoWorks();
        for (int call = 0; call < CALLS - 1; call++) {
            int i = call % 2 == 0 ? -1 - call : 16 + call;
            switch (call % 6) {
                case 0: checks.bad("node(" + i + ", ..)", () -> works.node(i, 0, 0, 0)); break;
                case 1: checks.bad("clear(" + i + ")", () -> works.clear(i)); break;
                case 2: checks.bad("run(" + i + ")", () -> works.run(i)); break;
                case 3: checks.bad("number(" + i + ")", () -> works.number(i)); break;
                case 4: checks.bad("row(" + i + ")", () -> works.row(i)); break;
                default: checks.bad("log(" + i + ")", () -> works.log(i)); break;
            }
        }
        checks.same("no run, the last call", 0, works.count(6));
    }

    private static void allRefused() {
        UndoWorks works = new UndoWorks();
        works.node(0, 14, 0, 0);
        for (int call = 1; call < CALLS - 1; call++) {
            checks.refused("run of what isn't whole", () -> works.run(0));
        }
        checks.same("END, the last call", 2, works.node(0, 16, 0, 0));
    }

    private static void allLooks() {
        UndoWorks works = new UndoWorks();
        for (int call = 0; call < CALLS; call++) {
            switch (call % 4) {
                case 0: checks.same("given", 0, works.given()); break;
                case 1: checks.same("number", 0, works.number(call % 8)); break;
                case 2: checks.same("row", 0, works.row(call % 8)); break;
                default: checks.same("count", 8, works.count(0)); break;
            }
        }
    }
}
