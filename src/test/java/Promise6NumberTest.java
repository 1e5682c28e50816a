/** Promise 6: number. */
public final class Promise6NumberTest {
    private Promise6NumberTest() {
    }

    public static void main(String[] args) {
        Checks checks = new Checks();
        UndoWorks works = new UndoWorks();
        Flow flow = new Flow(works, 0);
        for (int i = 0; i < 8; i++) {
            flow.set(i, 100 + i);
        }
        flow.run();
        checks.numbers("SET", works, 100, 101, 102, 103, 104, 105, 106, 107);
        for (int i : new int[] {-1, 8, Integer.MIN_VALUE, Integer.MAX_VALUE}) {
            checks.bad("number(" + i + ")", () -> works.number(i));
        }
        checks.finish();
    }
}
