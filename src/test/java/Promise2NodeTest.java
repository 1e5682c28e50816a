/** Promise 2: node. */
public final class Promise2NodeTest {
    private static final int MIN = Integer.MIN_VALUE;
    private static final int MAX = Integer.MAX_VALUE;
    private static final Checks checks = new Checks();

    private Promise2NodeTest() {
    }

    public static void main(String[] args) {
        answersHowManyThereAre();
        workflowsAndSorts();
        whatAMayBe();
        whatBMayBe();
        partsInTheirBlocks();
        partsOnceAndInOrder();
        breakAndNextInLoops();
        tenBlocksInOneAnother();
        sixtyNodes();
        badComesFirst();
        checks.finish();
    }

    private static void good(int sort, int a, int b) {
        UndoWorks works = new UndoWorks();
        int before = openFor(works, sort);
        checks.same("node(0, " + sort + ", " + a + ", " + b + ")", before + 1, works.node(0, sort, a, b));
    }

    private static void bad(int sort, int a, int b) {
        UndoWorks works = new UndoWorks();
        int before = openFor(works, sort);
        checks.bad("node(0, " + sort + ", " + a + ", " + b + ")", () -> works.node(0, sort, a, b));
        checks.same("NODES behind a bad one", before, works.count(5));
    }

    /** Opens what the SORT needs around it: for BREAK and NEXT as many LOOPS as there may be. */
    private static int openFor(UndoWorks works, int sort) {
        int opener = sort == 11 || sort == 12 ? 10 : sort == 22 ? 21 : sort == 16 ? 14 : 13;
        int many = sort == 17 || sort == 18 ? 10 : sort == 11 || sort == 12 || sort == 22 || sort == 16 ? 1 : 0;
        for (int i = 0; i < many; i++) {
            works.node(0, opener, 0, 0);
        }
        return many;
    }

    private static void answersHowManyThereAre() {
        UndoWorks works = new UndoWorks();
        checks.same("the first of workflow 0", 1, works.node(0, 0, 0, 0));
        checks.same("the second of workflow 0", 2, works.node(0, 0, 0, 0));
        checks.same("the first of workflow 7", 1, works.node(7, 0, 0, 0));
        checks.same("the third of workflow 0", 3, works.node(0, 14, 0, 0));
        checks.same("an END too", 4, works.node(0, 16, 0, 0));
        checks.same("NODES in all", 5, works.count(5));
    }

    private static void workflowsAndSorts() {
        UndoWorks works = new UndoWorks();
        for (int w : new int[] {-1, 8, MIN, MAX}) {
            checks.bad("workflow " + w, () -> works.node(w, 0, 0, 0));
        }
        for (int sort : new int[] {-1, 24, 25, MIN, MAX}) {
            checks.bad("SORT " + sort, () -> works.node(0, sort, 0, 0));
        }
        checks.same("no NODES", 0, works.count(5));
        for (int sort = 0; sort < 24; sort++) {
            good(sort, 0, 0);
        }
    }

    private static void whatAMayBe() {
        for (int sort : new int[] {0, 1, 2, 3, 4, 5, 6, 19, 20, 21}) {
            edgesOfA(sort, 7);
        }
        edgesOfA(7, 3);
        edgesOfA(8, 3);
        for (int sort : new int[] {9, 10, 11, 12, 13, 14, 15, 16, 17, 18, 22, 23}) {
            for (int a : new int[] {-1, 8, MIN, MAX}) {
                good(sort, a, 0);
            }
        }
    }

    private static void edgesOfA(int sort, int last) {
        good(sort, last, 0);
        for (int a : new int[] {-1, last + 1, MIN, MAX}) {
            bad(sort, a, 0);
        }
    }

    private static void whatBMayBe() {
        for (int sort : new int[] {3, 4, 5, 20}) {
            edgesOfB(sort, 7);
        }
        for (int sort : new int[] {9, 13, 17, 18}) {
            edgesOfB(sort, 9);
        }
        edgesOfB(7, 2);
        edgesOfB(10, 1023);
        for (int sort : new int[] {0, 1, 2, 6, 8, 11, 12, 14, 15, 16, 19, 21, 22, 23}) {
            for (int b : new int[] {-1, 8, 10, 1024, MIN, MAX}) {
                good(sort, 0, b);
            }
        }
    }

    private static void edgesOfB(int sort, int last) {
        good(sort, 0, last);
        for (int b : new int[] {-1, last + 1, MIN, MAX}) {
            bad(sort, 0, b);
        }
    }

    private static void refusedBehind(String what, int sort, int... opened) {
        UndoWorks works = new UndoWorks();
        for (int opener : opened) {
            works.node(0, opener, 0, 0);
        }
        checks.refused(what, () -> works.node(0, sort, 0, 0));
        checks.same(what + ": NODES behind a refused one", opened.length, works.count(5));
    }

    private static void standsBehind(String what, int sort, int... opened) {
        UndoWorks works = new UndoWorks();
        for (int opener : opened) {
            works.node(0, opener, 0, 0);
        }
        checks.same(what, opened.length + 1, works.node(0, sort, 0, 0));
    }

    private static void partsInTheirBlocks() {
        for (int sort : new int[] {11, 12, 16, 22}) {
            refusedBehind("SORT " + sort + " in no block", sort);
            refusedBehind("SORT " + sort + " behind a closed block", sort, 10, 16);
        }
        for (int block : new int[] {13, 14, 15, 21}) {
            refusedBehind("CATCH in block " + block, 11, block);
            refusedBehind("FINAL in block " + block, 12, block);
            refusedBehind("CATCH in block " + block + " in a TRY", 11, 10, block);
            refusedBehind("FINAL in block " + block + " in a TRY", 12, 10, block);
            standsBehind("CATCH behind block " + block + " in a TRY", 11, 10, block, 16);
        }
        for (int block : new int[] {10, 13, 14, 15}) {
            refusedBehind("ELSE in block " + block, 22, block);
            refusedBehind("ELSE in block " + block + " in an IF", 22, 21, block);
        }
        for (int block : new int[] {10, 13, 14, 15, 21}) {
            standsBehind("END of block " + block, 16, block);
            refusedBehind("END once more behind block " + block, 16, block, 16);
        }
    }

    private static void partsOnceAndInOrder() {
        standsBehind("CATCH", 11, 10);
        standsBehind("FINAL without CATCH", 12, 10);
        standsBehind("FINAL behind CATCH", 12, 10, 11);
        standsBehind("END behind CATCH", 16, 10, 11);
        standsBehind("END behind FINAL", 16, 10, 11, 12);
        standsBehind("END behind ELSE", 16, 21, 22);
        refusedBehind("CATCH behind CATCH", 11, 10, 11);
        refusedBehind("CATCH behind FINAL", 11, 10, 12);
        refusedBehind("CATCH behind CATCH and FINAL", 11, 10, 11, 12);
        refusedBehind("FINAL behind FINAL", 12, 10, 12);
        refusedBehind("FINAL behind CATCH and FINAL", 12, 10, 11, 12);
        refusedBehind("ELSE behind ELSE", 22, 21, 22);
        refusedBehind("ELSE in a CATCH", 22, 10, 11);
        standsBehind("a TRY's CATCH in another's FINAL", 11, 10, 12, 10);
    }

    private static void breakAndNextInLoops() {
        for (int sort : new int[] {17, 18}) {
            refusedBehind("SORT " + sort + " in no LOOP", sort);
            refusedBehind("SORT " + sort + " in a SCOPE alone", sort, 14);
            refusedBehind("SORT " + sort + " behind a LOOP", sort, 13, 16);
            standsBehind("SORT " + sort + " in a LOOP's TRY's FINAL", sort, 13, 10, 12);
            UndoWorks works = new UndoWorks();
            new Flow(works, 0).loop(1).tries(0).loop(1).mute();
            works.node(0, sort, 0, 0);
            works.node(0, sort, 0, 1);
            checks.refused("SORT " + sort + " with 2 in two LOOPS", () -> works.node(0, sort, 0, 2));
            works.node(0, 16, 0, 0);
            works.node(0, 16, 0, 0);
            works.node(0, sort, 0, 0);
            checks.refused("SORT " + sort + " with 1 in one LOOP again", () -> works.node(0, sort, 0, 1));
            checks.same("NODES", 9, works.count(5));
            checks.refused("SORT " + sort + " in a workflow without LOOPS", () -> works.node(1, sort, 0, 0));
        }
    }

    private static void tenBlocksInOneAnother() {
        int[] openers = {10, 13, 14, 15, 21, 10, 13, 14, 15, 21};
        for (int eleventh : new int[] {10, 13, 14, 15, 21}) {
            UndoWorks works = new UndoWorks();
            for (int opener : openers) {
                works.node(0, opener, 0, 0);
            }
            checks.refused("an eleventh block " + eleventh, () -> works.node(0, eleventh, 0, 0));
            checks.same("NODES", 10, works.count(5));
            works.node(0, 16, 0, 0);
            checks.same("a tenth once more", 12, works.node(0, eleventh, 0, 0));
        }
        UndoWorks works = new UndoWorks();
        for (int i = 0; i < 12; i++) {
            works.node(0, 14, 0, 0);
            works.node(0, 16, 0, 0);
        }
        checks.same("twelve blocks behind one another", 24, works.count(5));
    }

    private static void sixtyNodes() {
        UndoWorks works = new UndoWorks();
        new Flow(works, 3).scope();
        for (int i = 2; i <= 60; i++) {
            checks.same("NODE " + i, i, works.node(3, 1, 0, 1));
        }
        checks.refused("a sixty-first", () -> works.node(3, 1, 0, 1));
        checks.refused("a sixty-first that is an END", () -> works.node(3, 16, 0, 0));
        checks.bad("a sixty-first that is bad", () -> works.node(3, 1, 8, 1));
        checks.same("NODES", 60, works.count(5));
        checks.same("another workflow has room", 1, works.node(4, 1, 0, 1));
    }

    private static void badComesFirst() {
        UndoWorks works = new UndoWorks();
        checks.bad("BREAK 10 in no LOOP", () -> works.node(0, 17, 0, 10));
        checks.bad("NEXT -1 in no LOOP", () -> works.node(0, 18, 0, -1));
        checks.bad("END in workflow 8", () -> works.node(8, 16, 0, 0));
        for (int i = 0; i < 10; i++) {
            works.node(0, 14, 0, 0);
        }
        checks.bad("an eleventh block that is bad", () -> works.node(0, 10, 0, 1024));
        checks.refused("an eleventh block", () -> works.node(0, 10, 0, 1023));
    }
}
