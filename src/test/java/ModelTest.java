import java.util.Random;
import java.util.function.IntSupplier;

/** Runs of random calls, the same each time, on the class and on the model: every answer and all that can be seen is the same. */
public final class ModelTest {
    private static final int OBJECTS = 6000;
    // The document promises nothing behind these; one round of the loop below makes fewer than MOST_AT_ONCE.
    private static final int MOST_CALLS = 512;
    private static final int MOST_AT_ONCE = 130;
    private static final int BAD = Integer.MIN_VALUE;
    private static final int REFUSED = Integer.MIN_VALUE + 1;
    // NOTES, steps and ways out often enough that most runs get somewhere.
    private static final int[] SORTS = {0, 0, 1, 1, 1, 2, 2, 2, 2, 3, 4, 4, 5, 5, 5, 5, 6, 6, 6, 7, 7, 8, 8, 9, 9, 9,
        10, 10, 10, 11, 11, 11, 12, 12, 13, 13, 14, 14, 14, 15, 16, 16, 16, 16, 16, 17, 18, 19, 20, 20, 20, 21, 22, 23, 23};

    private static int wrong = 0;
    private static int calls = 0;
    private static final int[] seen = new int[13];
    private static int sumLost = 0;
    private static int sumUndone = 0;

    private ModelTest() {
    }

    public static void main(String[] args) {
        for (int seed = 0; seed < OBJECTS && wrong == 0; seed++) {
            compare(seed);
        }
        for (int answer = -1; answer <= 11; answer++) {
            if (seen[answer + 1] == 0) {
                wrong++;
                System.out.println("no run answered " + answer + ": the test has lost its reach");
            }
        }
        if (sumLost < 20 || sumUndone < 1000) {
            wrong++;
            System.out.println("too little undone (" + sumUndone + ") or LOST (" + sumLost + "): the test has lost its reach");
        }
        System.out.println(OBJECTS + " objects, " + sumUndone + " undone, " + sumLost + " lost, " + wrong + " wrong");
        if (wrong != 0) {
            System.exit(1);
        }
    }

    private static void compare(int seed) {
        Random random = new Random(seed);
        UndoWorks works = new UndoWorks();
        Model model = new Model();
        calls = 0;
        while (calls + MOST_AT_ONCE <= MOST_CALLS && wrong == 0) {
            String where = "object " + seed + ", call " + calls + ": ";
            int kind = random.nextInt(100);
            boolean looks = random.nextInt(40) == 0;
            int w = random.nextInt(50) == 0 ? edge(random, 8) : random.nextInt(1 + seed % 8);
            if (kind < 4) {
                phrase(random, where, works, model, w);
            } else if (kind < 92) {
                node(random, where, works, model, w);
            } else if (kind < 99) {
                close(random, works, model, w);
                int got = answer(() -> works.run(w));
                same(where + "run(" + w + ")", answer(() -> model.run(w)), got);
                looks = true;
                if (got >= -1 && got <= 11) {
                    seen[got + 1]++;
                }
            } else {
                same(where + "clear(" + w + ")", answer(() -> { model.clear(w); return 0; }),
                    answer(() -> { works.clear(w); return 0; }));
            }
            if (looks) {
                compareAll(where, works, model);
            }
        }
        compareCounts("object " + seed + ", in the end: ", works, model);
        sumLost += model.lost;
        sumUndone += model.undone;
    }

    private static void node(Random random, String where, UndoWorks works, Model model, int w) {
        int sort = random.nextInt(100) == 0 ? edge(random, 24) : SORTS[random.nextInt(SORTS.length)];
        boolean odd = random.nextInt(60) == 0;
        int a = odd ? edge(random, 8) : random.nextInt(sort == 7 || sort == 8 ? 4 : 8);
        int b = odd ? edge(random, 10) : argument(random, sort);
        same(where + "node(" + w + ", " + sort + ", " + a + ", " + b + ")",
            answer(() -> model.node(w, sort, a, b)), answer(() -> works.node(w, sort, a, b)));
    }

    /** A WRITE whose ROW may be another one, kept, when it is undone: chance alone hardly ever writes that. */
    private static void phrase(Random random, String where, UndoWorks works, Model model, int w) {
        int place = random.nextInt(8);
        int places = random.nextInt(8);
        int[][] nodes = {{14, 0, 0}, {2, place, random.nextInt(10)}, {5, place, random.nextInt(8)},
            {2, places, random.nextInt(10)}, {14, 0, 0}, {6, places, 0}, {23, 0, 0}, {16, 0, 0},
            {5, place, random.nextInt(8)}, {9, 0, random.nextInt(10)}};
        for (int[] n : nodes) {
            if (random.nextInt(12) == 0) {
                node(random, where, works, model, w);
            }
            same(where + "node of a phrase", answer(() -> model.node(w, n[0], n[1], n[2])),
                answer(() -> works.node(w, n[0], n[1], n[2])));
        }
    }

    private static int argument(Random random, int sort) {
        switch (sort) {
            case 1: case 2: return random.nextInt(20) == 0 ? random.nextInt() : random.nextInt(22) - 3;
            case 3: case 4: case 5: case 20: return random.nextInt(8);
            case 7: return random.nextInt(3);
            case 10: return random.nextBoolean() ? 1023 : random.nextInt(1024);
            case 13: return random.nextInt(4);
            case 17: case 18: return random.nextInt(3);
            default: return random.nextInt(10);
        }
    }

    private static int edge(Random random, int around) {
        int[] edges = {-1, 0, around - 1, around, around + 1, Integer.MIN_VALUE, Integer.MAX_VALUE, 1023, 1024};
        return edges[random.nextInt(edges.length)];
    }

    /** Most runs are of whole workflows: their open blocks get their ENDS first. */
    private static void close(Random random, UndoWorks works, Model model, int w) {
        if (random.nextInt(20) == 0) {
            return;
        }
        int got = 0;
        for (int i = 0; i < 10 && got >= 0; i++) {
            got = answer(() -> works.node(w, 16, 0, 0));
            same("closing " + w, answer(() -> model.node(w, 16, 0, 0)), got);
        }
    }

    private static int answer(IntSupplier call) {
        try {
            return call.getAsInt();
        } catch (IllegalArgumentException bad) {
            return BAD;
        } catch (IllegalStateException refused) {
            return REFUSED;
        }
    }

    private static void compareCounts(String where, UndoWorks works, Model model) {
        for (int what = -2; what < 16; what++) {
            same(where + "count(" + what + ")", model.count(what), works.count(what));
        }
    }

    private static void compareAll(String where, UndoWorks works, Model model) {
        compareCounts(where, works, model);
        same(where + "given()", model.given, works.given());
        for (int i = -1; i <= 8; i++) {
            int at = i;
            same(where + "number(" + i + ")", at >= 0 && at < 8 ? model.numbers[at] : BAD, answer(() -> works.number(at)));
        }
        for (int i = -1; i <= 16; i++) {
            int at = i;
            same(where + "row(" + i + ")", at >= 0 && at < model.row.length ? model.row[at] : BAD, answer(() -> works.row(at)));
        }
        for (int i = -1; i <= model.log.size(); i++) {
            int at = i;
            same(where + "log(" + i + ")", at >= 0 && at < model.log.size() ? model.log.get(at) : BAD, answer(() -> works.log(at)));
        }
    }

    /** Each has one call on the class behind it. */
    private static void same(String what, int want, int got) {
        calls++;
        if (calls > MOST_CALLS) {
            wrong++;
            System.out.println("the test itself makes more calls than it may");
        }
        if (want != got) {
            wrong++;
            System.out.println(what + " answered " + got + ", the model " + want);
        }
    }
}
