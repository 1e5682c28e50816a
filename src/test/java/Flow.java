/** Writes NODES into one workflow, so that a test reads like the workflow it makes. */
final class Flow {
    private final UndoWorks works;
    private final int w;

    Flow(UndoWorks works, int w) {
        this.works = works;
        this.w = w;
    }

    Flow put(int sort, int a, int b) {
        works.node(w, sort, a, b);
        return this;
    }

    Flow note(int a) { return put(0, a, 0); }
    Flow add(int a, int b) { return put(1, a, b); }
    Flow set(int a, int b) { return put(2, a, b); }
    Flow divide(int a, int b) { return put(3, a, b); }
    Flow read(int a, int b) { return put(4, a, b); }
    Flow write(int a, int b) { return put(5, a, b); }
    Flow make(int a) { return put(6, a, 0); }
    Flow hold(int a, int b) { return put(7, a, b); }
    Flow use(int a) { return put(8, a, 0); }
    Flow fail(int kind) { return put(9, 0, kind); }
    Flow tries(int bits) { return put(10, 0, bits); }
    Flow catches() { return put(11, 0, 0); }
    Flow ends() { return put(12, 0, 0); }
    Flow loop(int rounds) { return put(13, 0, rounds); }
    Flow scope() { return put(14, 0, 0); }
    Flow mute() { return put(15, 0, 0); }
    Flow end() { return put(16, 0, 0); }
    Flow leave(int b) { return put(17, 0, b); }
    Flow next(int b) { return put(18, 0, b); }
    Flow give(int a) { return put(19, a, 0); }
    Flow call(int a, int b) { return put(20, a, b); }
    Flow when(int a) { return put(21, a, 0); }
    Flow otherwise() { return put(22, 0, 0); }
    Flow keep() { return put(23, 0, 0); }

    /** As many ENDS. */
    Flow ends(int many) {
        for (int i = 0; i < many; i++) {
            end();
        }
        return this;
    }

    /** Costs exactly this, and does nothing else: an empty LOOP costs 1, and 1 a round. */
    Flow burn(int cost) {
        for (int left = cost; left > 0; left -= 10) {
            loop(Math.min(left, 10) - 1).end();
        }
        return this;
    }

    int run() { return works.run(w); }
}
