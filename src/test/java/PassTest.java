/** Promise 9: pass. */
public final class PassTest {
    private static final Checks checks = new Checks();

    public static void main(String[] args) {
        VisitorLoom loom = new VisitorLoom();
        for (int bad : new int[] {0, -1, 20001, Integer.MIN_VALUE, Integer.MAX_VALUE}) {
            checks.wrongArgument("pass " + bad, () -> loom.pass(bad));
        }
        checks.due("one", 1441, () -> loom.pass(1));
        for (int step = 1; step <= 4; step++) {
            checks.due("step " + step, 1441 + 20000 * step, () -> loom.pass(20000));
        }
        checks.wrongState("above", () -> loom.pass(18560));
        checks.wrongState("far above", () -> loom.pass(20000));
        checks.wrongArgument("argument goes first", () -> loom.pass(20001));
        checks.due("just below", 99999, () -> loom.pass(18558));
        checks.wrongState("above by one", () -> loom.pass(2));
        checks.due("the latest", 100000, () -> loom.pass(1));
        checks.wrongState("no more", () -> loom.pass(1));
        checks.due("consent at now", 1, () -> loom.consent(0, 0, 100000, true));
        checks.end();
    }
}
