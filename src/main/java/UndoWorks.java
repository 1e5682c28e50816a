/**
 * Runs workflows with compensations: steps change numbers, a row and boxes;
 * what they did in a SCOPE that FAILS is undone, the latest first.
 */
public final class UndoWorks {

    private static final int WORKFLOWS = 8;
    private static final int MOST_NODES = 60;
    private static final int MOST_BLOCKS = 10;
    private static final int NUMBERS = 8;
    private static final int SLOTS = 4;
    private static final int FIRST_PLACES = 8;
    private static final int MOST_PLACES = 16;
    private static final int MOST_NOTES = 100;
    private static final int MOST_COST = 60;
    private static final int MOST_IN_ONE_ANOTHER = 6;
    private static final int NONE = -1;

    private static final int NOTE = 0;
    private static final int ADD = 1;
    private static final int SET = 2;
    private static final int DIVIDE = 3;
    private static final int READ = 4;
    private static final int WRITE = 5;
    private static final int MAKE = 6;
    private static final int HOLD = 7;
    private static final int USE = 8;
    private static final int FAIL = 9;
    private static final int TRY = 10;
    private static final int CATCH = 11;
    private static final int FINAL = 12;
    private static final int LOOP = 13;
    private static final int SCOPE = 14;
    private static final int MUTE = 15;
    private static final int END = 16;
    private static final int BREAK = 17;
    private static final int NEXT = 18;
    private static final int GIVE = 19;
    private static final int CALL = 20;
    private static final int IF = 21;
    private static final int ELSE = 22;
    private static final int KEEP = 23;
    private static final int SORTS = 24;

    // What a SLOT may have; the third is 1, a COUNTER.
    private static final int NOTHING = 0;
    private static final int MARK = 2;

    private static final int BY_ZERO = 1;
    private static final int NO_PLACE = 2;
    private static final int BELOW_ZERO = 3;
    private static final int TOO_MANY = 4;
    private static final int EMPTY_SLOT = 5;
    private static final int HELD_MARK = 6;
    private static final int NO_CALL = 7;

    private static final int CAUGHT_NUMBER = 7;

    private static final int ANY = 0;

    // For each SORT, a and b are 0 up to below these, or anything where ANY stands.
    private static final int[] BELOW_A = {
        NUMBERS, NUMBERS, NUMBERS, NUMBERS, NUMBERS, NUMBERS, NUMBERS, SLOTS, SLOTS, ANY, ANY, ANY,
        ANY, ANY, ANY, ANY, ANY, ANY, ANY, NUMBERS, NUMBERS, NUMBERS, ANY, ANY};
    private static final int[] BELOW_B = {
        ANY, ANY, ANY, NUMBERS, NUMBERS, NUMBERS, ANY, 3, ANY, 10, 1024, ANY,
        ANY, 10, ANY, ANY, ANY, 10, 10, ANY, WORKFLOWS, ANY, ANY, ANY};

    // A WAY to end is a long: how it ends in its low three bits, and above them the number
    // that goes with it (of the LOOP, the number given, the kind), so that a WAY that waits
    // for its FINAL keeps its number whatever is done there.
    private static final long GOING_ON = 0;
    private static final int LEAVING = 1;
    private static final int NEXT_ROUND = 2;
    private static final int GIVING = 3;
    private static final int FAILING = 4;
    private static final int STOP = 5;

    private final Workflow[] workflows;
    private final Data data;
    private final UndoList undoList;
    private int cost;
    private int latestGiven;
    private int runs;

    public UndoWorks() {
        workflows = new Workflow[WORKFLOWS];
        for (int w = 0; w < WORKFLOWS; w++) {
            workflows[w] = new Workflow();
        }
        data = new Data();
        undoList = new UndoList();
    }

    public int node(int w, int sort, int a, int b) throws IllegalArgumentException, IllegalStateException {
        demandRange(w, WORKFLOWS);
        demandRange(sort, SORTS);
        demand(isBelow(a, BELOW_A[sort]) && isBelow(b, BELOW_B[sort]));
        Workflow flow = workflows[w];
        if (!flow.canTake(sort, b)) {
            throw new IllegalStateException("the node can't stand there");
        }
        flow.append(sort, a, b);
        return flow.size;
    }

    public void clear(int w) throws IllegalArgumentException {
        demandRange(w, WORKFLOWS);
        workflows[w].empty();
    }

    public int run(int w) throws IllegalArgumentException, IllegalStateException {
        demandRange(w, WORKFLOWS);
        Workflow flow = workflows[w];
        if (!flow.isWhole()) {
            throw new IllegalStateException("a block has no END");
        }
        runs++;
        cost = 0;
        data.notes = 0;
        long way = doPart(flow, NONE, 1);
        latestGiven = howOf(way) == GIVING ? numberOf(way) : 0;
        return answerOf(way);
    }

    public int given() {
        return latestGiven;
    }

    public int number(int i) throws IllegalArgumentException {
        demandRange(i, NUMBERS);
        return data.numbers[i];
    }

    public int row(int i) throws IllegalArgumentException {
        demandRange(i, data.places);
        return data.row[i];
    }

    public int log(int i) throws IllegalArgumentException {
        demandRange(i, data.notes);
        return data.log[i];
    }

    public int count(int what) {
        switch (what) {
            case 0: return data.places;
            case 1: return data.notes;
            case 2: return cost;
            case 3: return undoList.lost;
            case 4: return undoList.undone;
            case 5: return allNodes();
            case 6: return runs;
            case 10:
            case 11:
            case 12:
            case 13: return data.held[what - 10];
            default: return -1;
        }
    }

    private static void demand(boolean right) {
        if (!right) {
            throw new IllegalArgumentException("a number is out of range");
        }
    }

    private static void demandRange(int value, int below) {
        demand(value >= 0 && value < below);
    }

    private static boolean isBelow(int value, int below) {
        return below == ANY || (value >= 0 && value < below);
    }

    private int allNodes() {
        int sum = 0;
        for (int w = 0; w < WORKFLOWS; w++) {
            sum += workflows[w].size;
        }
        return sum;
    }

    private static long wayOf(int how, int number) {
        return ((long) number << 3) | how;
    }

    private static int howOf(long way) {
        return (int) (way & 7);
    }

    private static int numberOf(long way) {
        return (int) (way >> 3);
    }

    private static long failing(int kind) {
        return wayOf(FAILING, kind);
    }

    private static int answerOf(long way) {
        switch (howOf(way)) {
            case GIVING: return 1;
            case FAILING: return 2 + numberOf(way);
            case STOP: return -1;
            default: return 0;
        }
    }

    private boolean canPay() {
        if (cost >= MOST_COST) {
            return false;
        }
        cost++;
        return true;
    }

    // The NODES behind the one that begins the part, up to the part's end; with NONE the whole
    // workflow. Each level of this recursion has paid for a NODE, so COST keeps it below 61.
    private long doPart(Workflow flow, int part, int inOneAnother) {
        int end = part == NONE ? flow.size : flow.partEnd[part];
        for (int i = part + 1; i < end; i = Math.max(i, flow.blockEnd[i]) + 1) {
            long way = doNode(flow, i, inOneAnother);
            if (way != GOING_ON) {
                return way;
            }
        }
        return GOING_ON;
    }

    private long doNode(Workflow flow, int at, int inOneAnother) {
        if (!canPay()) {
            return wayOf(STOP, 0);
        }
        int a = flow.a[at];
        int b = flow.b[at];
        switch (flow.sort[at]) {
            case TRY: return doTry(flow, at, inOneAnother);
            case LOOP: return doLoop(flow, at, inOneAnother);
            case SCOPE: return doScope(flow, at, inOneAnother);
            case MUTE: return doMute(flow, at, inOneAnother);
            case IF: return doIf(flow, at, inOneAnother);
            case CALL: return doCall(a, b, inOneAnother);
            case BREAK: return wayOf(LEAVING, b);
            case NEXT: return wayOf(NEXT_ROUND, b);
            case GIVE: return wayOf(GIVING, data.numbers[a]);
            case FAIL: return failing(b);
            default: return doStep(flow.sort[at], a, b);
        }
    }

    private long doTry(Workflow flow, int at, int inOneAnother) {
        long way = doPart(flow, at, inOneAnother);
        int part = flow.partEnd[at];
        if (flow.sort[part] == CATCH) {
            if (howOf(way) == FAILING && ((flow.b[at] >> numberOf(way)) & 1) == 1) {
                data.numbers[CAUGHT_NUMBER] = numberOf(way);
                way = doPart(flow, part, inOneAnother);
            }
            part = flow.partEnd[part];
        }
        if (flow.sort[part] == FINAL && howOf(way) != STOP) {
            long finalWay = doPart(flow, part, inOneAnother);
            return finalWay == GOING_ON ? way : finalWay;
        }
        return way;
    }

    private long doLoop(Workflow flow, int at, int inOneAnother) {
        for (int round = 0; round < flow.b[at]; round++) {
            if (!canPay()) {
                return wayOf(STOP, 0);
            }
            long way = doPart(flow, at, inOneAnother);
            int how = howOf(way);
            if (how == LEAVING || how == NEXT_ROUND) {
                if (numberOf(way) > 0) {
                    return wayOf(how, numberOf(way) - 1);
                }
                if (how == LEAVING) {
                    return GOING_ON;
                }
            } else if (way != GOING_ON) {
                return way;
            }
        }
        return GOING_ON;
    }

    private long doScope(Workflow flow, int at, int inOneAnother) {
        int around = undoList.enterScope();
        long way = doPart(flow, at, inOneAnother);
        if (howOf(way) == FAILING) {
            undoList.undoScope(data);
        }
        undoList.leaveScope(around);
        return way;
    }

    private long doMute(Workflow flow, int at, int inOneAnother) {
        long way = doPart(flow, at, inOneAnother);
        return howOf(way) == STOP ? way : GOING_ON;
    }

    private long doIf(Workflow flow, int at, int inOneAnother) {
        if (data.numbers[flow.a[at]] != 0) {
            return doPart(flow, at, inOneAnother);
        }
        int part = flow.partEnd[at];
        return flow.sort[part] == ELSE ? doPart(flow, part, inOneAnother) : GOING_ON;
    }

    private long doCall(int a, int b, int inOneAnother) {
        Workflow called = workflows[b];
        if (!called.isWhole() || inOneAnother >= MOST_IN_ONE_ANOTHER) {
            return failing(NO_CALL);
        }
        long way = doPart(called, NONE, inOneAnother + 1);
        int how = howOf(way);
        if (how == FAILING || how == STOP) {
            return way;
        }
        data.numbers[a] = how == GIVING ? numberOf(way) : 0;
        return GOING_ON;
    }

    private long doStep(int sort, int a, int b) {
        switch (sort) {
            case NOTE: return doNote(a);
            case ADD: return doAdd(a, b);
            case SET: return doSet(a, b);
            case DIVIDE: return doDivide(a, b);
            case READ: return doRead(a, b);
            case WRITE: return doWrite(a, b);
            case MAKE: return doMake(a);
            case HOLD: return doHold(a, b);
            case USE: return doUse(a);
            case KEEP: return doKeep();
            default: return GOING_ON;
        }
    }

    private long doNote(int a) {
        data.takeNote(data.numbers[a]);
        return GOING_ON;
    }

    private long doAdd(int a, int b) {
        undoList.remember(ADD, a, b);
        data.numbers[a] += b;
        return GOING_ON;
    }

    private long doSet(int a, int b) {
        undoList.remember(SET, a, data.numbers[a]);
        data.numbers[a] = b;
        return GOING_ON;
    }

    private long doDivide(int a, int b) {
        int divisor = data.numbers[b];
        if (divisor == 0) {
            return failing(BY_ZERO);
        }
        undoList.remember(DIVIDE, a, data.numbers[a]);
        data.numbers[a] = data.numbers[a] / divisor;
        return GOING_ON;
    }

    private long doRead(int a, int b) {
        int place = data.numbers[b];
        if (!data.hasPlace(place)) {
            return failing(NO_PLACE);
        }
        data.numbers[a] = data.row[place];
        return GOING_ON;
    }

    private long doWrite(int a, int b) {
        int place = data.numbers[a];
        if (!data.hasPlace(place)) {
            return failing(NO_PLACE);
        }
        undoList.remember(WRITE, place, data.row[place]);
        data.row[place] = data.numbers[b];
        return GOING_ON;
    }

    private long doMake(int a) {
        int places = data.numbers[a];
        if (places < 0) {
            return failing(BELOW_ZERO);
        }
        if (places > MOST_PLACES) {
            return failing(TOO_MANY);
        }
        undoList.rememberRow(data);
        data.makeRow(places);
        return GOING_ON;
    }

    private long doHold(int a, int b) {
        undoList.rememberSlot(a, data);
        data.held[a] = b;
        data.counters[a] = 0;
        return GOING_ON;
    }

    private long doUse(int a) {
        if (data.held[a] == NOTHING) {
            return failing(EMPTY_SLOT);
        }
        if (data.held[a] == MARK) {
            return failing(HELD_MARK);
        }
        data.counters[a]++;
        data.takeNote(data.counters[a]);
        return GOING_ON;
    }

    private long doKeep() {
        undoList.keep();
        return GOING_ON;
    }

    /** The NODES of one workflow, and where the parts of its blocks end. */
    private static final class Workflow {

        final int[] sort = new int[MOST_NODES];
        final int[] a = new int[MOST_NODES];
        final int[] b = new int[MOST_NODES];
        // Of a NODE that begins a part of a block: where the next part, or the block's END, stands.
        final int[] partEnd = new int[MOST_NODES];
        // Of a NODE that begins a block: where its END stands; of any other: where it stands itself.
        final int[] blockEnd = new int[MOST_NODES];
        // Of each block that is open, the outermost first: where it and its latest part begin.
        final int[] openBlock = new int[MOST_BLOCKS];
        final int[] openPart = new int[MOST_BLOCKS];
        int open;
        int size;

        boolean isWhole() {
            return open == 0;
        }

        void empty() {
            open = 0;
            size = 0;
        }

        boolean canTake(int newSort, int newB) {
            if (size >= MOST_NODES) {
                return false;
            }
            switch (newSort) {
                case TRY:
                case LOOP:
                case SCOPE:
                case MUTE:
                case IF: return open < MOST_BLOCKS;
                case CATCH: return latestPart() == TRY;
                case FINAL: return latestPart() == TRY || latestPart() == CATCH;
                case ELSE: return latestPart() == IF;
                case END: return open > 0;
                case BREAK:
                case NEXT: return openLoops() > newB;
                default: return true;
            }
        }

        // Only what canTake allows comes here.
        void append(int newSort, int newA, int newB) {
            int at = size;
            sort[at] = newSort;
            a[at] = newA;
            b[at] = newB;
            partEnd[at] = at;
            blockEnd[at] = at;
            size++;
            switch (newSort) {
                case TRY:
                case LOOP:
                case SCOPE:
                case MUTE:
                case IF:
                    openAt(at);
                    break;
                case CATCH:
                case FINAL:
                case ELSE:
                    beginPartAt(at);
                    break;
                case END:
                    closeAt(at);
                    break;
                default:
                    break;
            }
        }

        private int latestPart() {
            return open > 0 ? sort[openPart[open - 1]] : NONE;
        }

        private int openLoops() {
            int loops = 0;
            for (int i = 0; i < open; i++) {
                if (sort[openBlock[i]] == LOOP) {
                    loops++;
                }
            }
            return loops;
        }

        private void openAt(int at) {
            if (open < MOST_BLOCKS) {
                openBlock[open] = at;
                openPart[open] = at;
                open++;
            }
        }

        private void beginPartAt(int at) {
            if (open > 0) {
                partEnd[openPart[open - 1]] = at;
                openPart[open - 1] = at;
            }
        }

        private void closeAt(int at) {
            if (open > 0) {
                open--;
                partEnd[openPart[open]] = at;
                blockEnd[openBlock[open]] = at;
            }
        }
    }

    /** What the steps change; it stays from run to run, but for the LOG. */
    private static final class Data {

        final int[] numbers = new int[NUMBERS];
        final int[] row = new int[MOST_PLACES];
        int places = FIRST_PLACES;
        final int[] held = new int[SLOTS];
        final int[] counters = new int[SLOTS];
        final int[] log = new int[MOST_NOTES];
        int notes;

        boolean hasPlace(int place) {
            return place >= 0 && place < places;
        }

        void takeNote(int value) {
            if (notes < MOST_NOTES) {
                log[notes] = value;
                notes++;
            }
        }

        void makeRow(int newPlaces) {
            for (int i = 0; i < MOST_PLACES; i++) {
                row[i] = 0;
            }
            places = newPlaces;
        }
    }

    /**
     * What was done in the SCOPES that are open and can be undone, the oldest first. What a SCOPE
     * did stands behind what the SCOPE around it did before, so one list serves them all.
     */
    private static final class UndoList {

        // COST lets a run do no more than this.
        private static final int MOST_DONE = MOST_COST;

        final int[] sort = new int[MOST_DONE];
        // The NUMBER, place or SLOT that was changed.
        final int[] where = new int[MOST_DONE];
        // What was added, or what stood there; for a row how many places it had.
        final int[] was = new int[MOST_DONE];
        final int[] wasHeld = new int[MOST_DONE];
        // A ROW that MAKE put away can't change until it is back, so a copy serves as well.
        final int[] wasRow = new int[MOST_DONE * MOST_PLACES];
        int size;
        // Where the innermost open SCOPE begins in the list.
        int scope = NONE;
        int undone;
        int lost;

        int enterScope() {
            int around = scope;
            scope = size;
            return around;
        }

        void leaveScope(int around) {
            scope = around;
            if (around == NONE) {
                size = 0;
            }
        }

        void keep() {
            if (scope != NONE) {
                size = scope;
            }
        }

        void remember(int newSort, int newWhere, int newWas) {
            if (hasRoom()) {
                sort[size] = newSort;
                where[size] = newWhere;
                was[size] = newWas;
                size++;
            }
        }

        void rememberRow(Data data) {
            if (hasRoom()) {
                System.arraycopy(data.row, 0, wasRow, size * MOST_PLACES, MOST_PLACES);
                remember(MAKE, 0, data.places);
            }
        }

        void rememberSlot(int slot, Data data) {
            if (hasRoom()) {
                wasHeld[size] = data.held[slot];
                remember(HOLD, slot, data.counters[slot]);
            }
        }

        void undoScope(Data data) {
            if (scope == NONE) {
                return;
            }
            for (int i = size - 1; i >= scope; i--) {
                undoAt(i, data);
            }
            size = scope;
        }

        private boolean hasRoom() {
            return scope != NONE && size < MOST_DONE;
        }

        private void undoAt(int i, Data data) {
            int at = where[i];
            if (sort[i] == WRITE && !data.hasPlace(at)) {
                lost++;
                return;
            }
            undone++;
            switch (sort[i]) {
                case ADD:
                    data.numbers[at] -= was[i];
                    break;
                case WRITE:
                    data.row[at] = was[i];
                    break;
                case MAKE:
                    System.arraycopy(wasRow, i * MOST_PLACES, data.row, 0, MOST_PLACES);
                    data.places = was[i];
                    break;
                case HOLD:
                    data.held[at] = wasHeld[i];
                    data.counters[at] = was[i];
                    break;
                default:
                    data.numbers[at] = was[i];
                    break;
            }
        }
    }
}
