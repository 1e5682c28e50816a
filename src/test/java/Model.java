import java.util.ArrayDeque;
import java.util.ArrayList;
import java.util.Deque;
import java.util.List;
import java.util.function.BooleanSupplier;

/**
 * The document told once more, by other means than the class uses: blocks are a tree that is parsed
 * anew for each call, the WAYS are Java's own exceptions, ROWS and COUNTERS are objects that are put
 * back themselves, and each SCOPE has a list of its own.
 */
final class Model {
    final List<List<int[]>> flows = new ArrayList<>();
    final int[] numbers = new int[8];
    int[] row = new int[8];
    final Object[] slots = new Object[4];
    final List<Integer> log = new ArrayList<>();
    private final Deque<List<BooleanSupplier>> scopes = new ArrayDeque<>();
    int cost;
    int lost;
    int undone;
    int runs;
    int given;

    Model() {
        for (int w = 0; w < 8; w++) {
            flows.add(new ArrayList<>());
        }
    }

    int node(int w, int sort, int a, int b) {
        if (!in(w, 8) || !mayBe(sort, a, b)) {
            throw new IllegalArgumentException();
        }
        List<int[]> flow = flows.get(w);
        List<int[]> longer = new ArrayList<>(flow);
        longer.add(new int[] {sort, a, b});
        if (longer.size() > 60 || !new Parser(longer).stands) {
            throw new IllegalStateException();
        }
        flows.set(w, longer);
        return longer.size();
    }

    void clear(int w) {
        if (!in(w, 8)) {
            throw new IllegalArgumentException();
        }
        flows.set(w, new ArrayList<>());
    }

    int run(int w) {
        if (!in(w, 8)) {
            throw new IllegalArgumentException();
        }
        Parser parser = new Parser(flows.get(w));
        if (!parser.whole) {
            throw new IllegalStateException();
        }
        runs++;
        cost = 0;
        given = 0;
        log.clear();
        scopes.clear();
        try {
            all(parser.top, 1);
            return 0;
        } catch (Give give) {
            given = give.number;
            return 1;
        } catch (Fail fail) {
            return 2 + fail.number;
        } catch (Stop stop) {
            return -1;
        }
    }

    int count(int what) {
        int nodes = 0;
        for (List<int[]> flow : flows) {
            nodes += flow.size();
        }
        if (what >= 10 && what <= 13) {
            Object held = slots[what - 10];
            return held == null ? 0 : held instanceof int[] ? 1 : 2;
        }
        int[] known = {row.length, log.size(), cost, lost, undone, nodes, runs};
        return in(what, known.length) ? known[what] : -1;
    }

    private static boolean in(int value, int below) {
        return value >= 0 && value < below;
    }

    private static boolean mayBe(int sort, int a, int b) {
        return switch (sort) {
            case 0, 1, 2, 6, 19, 21 -> in(a, 8);
            case 3, 4, 5, 20 -> in(a, 8) && in(b, 8);
            case 7 -> in(a, 4) && in(b, 3);
            case 8 -> in(a, 4);
            case 9, 13, 17, 18 -> in(b, 10);
            case 10 -> in(b, 1024);
            case 11, 12, 14, 15, 16, 22, 23 -> true;
            default -> false;
        };
    }

    private void pay() {
        if (cost + 1 > 60) {
            throw new Stop();
        }
        cost++;
    }

    private void all(List<Node> nodes, int inOneAnother) {
        for (Node node : nodes) {
            pay();
            one(node, inOneAnother);
        }
    }

    private void one(Node n, int inOneAnother) {
        switch (n.sort) {
            case 0 -> note(numbers[n.a]);
            case 1 -> {
                numbers[n.a] += n.b;
                done(() -> { numbers[n.a] -= n.b; return true; });
            }
            case 2 -> setUndoably(n.a, n.b);
            case 3 -> {
                if (numbers[n.b] == 0) {
                    throw new Fail(1);
                }
                setUndoably(n.a, numbers[n.a] / numbers[n.b]);
            }
            case 4 -> numbers[n.a] = row[place(numbers[n.b])];
            case 5 -> {
                int at = place(numbers[n.a]);
                int was = row[at];
                row[at] = numbers[n.b];
                done(() -> putBack(at, was));
            }
            case 6 -> makeRow(numbers[n.a]);
            case 7 -> {
                Object was = slots[n.a];
                slots[n.a] = n.b == 0 ? null : n.b == 1 ? new int[1] : "mark";
                done(() -> { slots[n.a] = was; return true; });
            }
            case 8 -> use(slots[n.a]);
            case 9 -> throw new Fail(n.b);
            case 10 -> doTry(n, inOneAnother);
            case 13 -> doLoop(n, inOneAnother);
            case 14 -> doScope(n, inOneAnother);
            case 15 -> {
                try {
                    all(n.first, inOneAnother);
                } catch (Stop stop) {
                    throw stop;
                } catch (Out out) {
                    return;
                }
            }
            case 17 -> throw new Leave(n.b);
            case 18 -> throw new Again(n.b);
            case 19 -> throw new Give(numbers[n.a]);
            case 20 -> doCall(n, inOneAnother);
            case 21 -> all(numbers[n.a] != 0 ? n.first : n.second == null ? List.of() : n.second, inOneAnother);
            case 23 -> {
                if (!scopes.isEmpty()) {
                    scopes.peek().clear();
                }
            }
            default -> throw new AssertionError();
        }
    }

    private void note(int value) {
        if (log.size() < 100) {
            log.add(value);
        }
    }

    private void done(BooleanSupplier undo) {
        if (!scopes.isEmpty()) {
            scopes.peek().add(undo);
        }
    }

    private void setUndoably(int a, int value) {
        int was = numbers[a];
        numbers[a] = value;
        done(() -> { numbers[a] = was; return true; });
    }

    private int place(int at) {
        if (!in(at, row.length)) {
            throw new Fail(2);
        }
        return at;
    }

    private boolean putBack(int at, int was) {
        if (at >= row.length) {
            return false;
        }
        row[at] = was;
        return true;
    }

    private void makeRow(int places) {
        if (places < 0) {
            throw new Fail(3);
        }
        if (places > 16) {
            throw new Fail(4);
        }
        int[] was = row;
        row = new int[places];
        done(() -> { row = was; return true; });
    }

    private void use(Object held) {
        if (held == null) {
            throw new Fail(5);
        }
        if (!(held instanceof int[])) {
            throw new Fail(6);
        }
        note(++((int[]) held)[0]);
    }

    private void doTry(Node n, int inOneAnother) {
        Out out = null;
        try {
            all(n.first, inOneAnother);
        } catch (Out first) {
            out = first;
        }
        if (out instanceof Fail && n.second != null && (n.b & (1 << out.number)) != 0) {
            numbers[7] = out.number;
            out = null;
            try {
                all(n.second, inOneAnother);
            } catch (Out second) {
                out = second;
            }
        }
        if (n.last != null && !(out instanceof Stop)) {
            all(n.last, inOneAnother);
        }
        if (out != null) {
            throw out;
        }
    }

    private void doLoop(Node n, int inOneAnother) {
        for (int left = n.b; left > 0; left--) {
            pay();
            try {
                all(n.first, inOneAnother);
            } catch (Leave leave) {
                if (leave.number == 0) {
                    return;
                }
                throw new Leave(leave.number - 1);
            } catch (Again again) {
                if (again.number != 0) {
                    throw new Again(again.number - 1);
                }
            }
        }
    }

    private void doScope(Node n, int inOneAnother) {
        List<BooleanSupplier> mine = new ArrayList<>();
        scopes.push(mine);
        boolean failed = false;
        try {
            all(n.first, inOneAnother);
        } catch (Fail fail) {
            failed = true;
            for (int i = mine.size() - 1; i >= 0; i--) {
                if (mine.get(i).getAsBoolean()) {
                    undone++;
                } else {
                    lost++;
                }
            }
            throw fail;
        } finally {
            scopes.pop();
            if (!failed && !scopes.isEmpty()) {
                scopes.peek().addAll(mine);
            }
        }
    }

    private void doCall(Node n, int inOneAnother) {
        Parser parser = new Parser(flows.get(n.b));
        if (!parser.whole || inOneAnother + 1 == 7) {
            throw new Fail(7);
        }
        int gave = 0;
        try {
            all(parser.top, inOneAnother + 1);
        } catch (Give give) {
            gave = give.number;
        }
        numbers[n.a] = gave;
    }

    private static class Out extends RuntimeException {
        private static final long serialVersionUID = 1;
        final int number;

        Out(int number) {
            super(null, null, false, false);
            this.number = number;
        }
    }

    private static final class Leave extends Out {
        private static final long serialVersionUID = 1;
        Leave(int number) { super(number); }
    }

    private static final class Again extends Out {
        private static final long serialVersionUID = 1;
        Again(int number) { super(number); }
    }

    private static final class Give extends Out {
        private static final long serialVersionUID = 1;
        Give(int number) { super(number); }
    }

    private static final class Fail extends Out {
        private static final long serialVersionUID = 1;
        Fail(int number) { super(number); }
    }

    private static final class Stop extends Out {
        private static final long serialVersionUID = 1;
        Stop() { super(0); }
    }

    private static final class Node {
        final int sort;
        final int a;
        final int b;
        List<Node> first;
        List<Node> second;
        List<Node> last;

        Node(int[] text) {
            sort = text[0];
            a = text[1];
            b = text[2];
        }
    }

    /** Reads as much of a workflow as there is by the grammar of the blocks. */
    private static final class Parser {
        private final List<int[]> text;
        private int at = 0;
        boolean stands = true;
        boolean whole;
        final List<Node> top;

        Parser(List<int[]> text) {
            this.text = text;
            whole = true;
            top = nodes(0, 0);
            if (at < text.size()) {
                stands = false;
            }
            whole = whole && stands;
        }

        private int sort() {
            return at < text.size() ? text.get(at)[0] : -1;
        }

        private List<Node> nodes(int depth, int loops) {
            List<Node> nodes = new ArrayList<>();
            while (stands && at < text.size() && !List.of(11, 12, 16, 22).contains(sort())) {
                Node n = new Node(text.get(at));
                at++;
                nodes.add(n);
                if (List.of(10, 13, 14, 15, 21).contains(n.sort)) {
                    block(n, depth + 1, loops);
                } else if ((n.sort == 17 || n.sort == 18) && n.b >= loops) {
                    stands = false;
                }
            }
            return nodes;
        }

        private void block(Node n, int depth, int loops) {
            if (depth > 10) {
                stands = false;
                return;
            }
            int inside = n.sort == 13 ? loops + 1 : loops;
            n.first = nodes(depth, inside);
            if (sort() == (n.sort == 10 ? 11 : n.sort == 21 ? 22 : -2)) {
                at++;
                n.second = nodes(depth, inside);
            }
            if (n.sort == 10 && sort() == 12) {
                at++;
                n.last = nodes(depth, inside);
            }
            if (sort() == 16) {
                at++;
            } else if (at < text.size()) {
                stands = false;
            } else {
                whole = false;
            }
        }
    }
}
