/** Promise 6: consent. */
public final class ConsentTest {
    private static final Checks checks = new Checks();

    public static void main(String[] args) {
        countsItsChanges();
        wrongArguments();
        edges();
        twentyForEachNodeAndPurpose();
        lastOneOfAMinute();
        accountGoesAheadOfDevice();
        followsTheSkew();
        checks.end();
    }

    private static void countsItsChanges() {
        VisitorLoom loom = new VisitorLoom();
        checks.due("first", 1, () -> loom.consent(19, 3, 1440, true));
        checks.due("second, alike", 2, () -> loom.consent(19, 3, 1440, true));
        checks.due("another purpose", 1, () -> loom.consent(19, 2, 0, false));
        checks.due("another node", 1, () -> loom.consent(0, 3, 0, false));
        checks.due("third, earlier", 3, () -> loom.consent(19, 3, 0, false));
    }

    private static void wrongArguments() {
        VisitorLoom loom = new VisitorLoom();
        for (int bad : new int[] {-1, Integer.MIN_VALUE, Integer.MAX_VALUE}) {
            checks.wrongArgument("node " + bad, () -> loom.consent(bad, 0, 0, true));
            checks.wrongArgument("purpose " + bad, () -> loom.consent(0, bad, 0, true));
            checks.wrongArgument("from " + bad, () -> loom.consent(0, 0, bad, true));
        }
        checks.wrongArgument("node 20", () -> loom.consent(20, 0, 0, true));
        checks.wrongArgument("purpose 4", () -> loom.consent(0, 4, 0, true));
        checks.wrongArgument("behind now", () -> loom.consent(0, 0, 1441, true));
        loom.pass(1);
        checks.due("none was told", 1, () -> loom.consent(0, 0, 1441, true));
        checks.wrongArgument("behind now", () -> loom.consent(0, 0, 1442, true));
    }

    private static void edges() {
        VisitorLoom loom = new VisitorLoom();
        loom.event(1, 0, -1, 0, -1, 99);
        loom.event(2, 0, -1, 0, -1, 100);
        loom.event(3, 0, -1, 0, -1, 199);
        loom.event(4, 0, -1, 0, -1, 200);
        checks.due("not given at first", 0, () -> loom.counted(10, 1, 0, 1440, 1));
        loom.consent(10, 1, 100, true);
        checks.due("from its minute on", 3, () -> loom.counted(10, 1, 0, 1440, 1));
        loom.consent(10, 1, 200, false);
        checks.due("up to the next one", 2, () -> loom.counted(10, 1, 0, 1440, 1));
        checks.due("for its purpose alone", 0, () -> loom.counted(10, 0, 0, 1440, 1));
        loom.consent(10, 1, 0, true);
        checks.due("told later, from earlier on", 3, () -> loom.counted(10, 1, 0, 1440, 1));
        loom.consent(10, 1, 50, false);
        checks.due("cut by the next", 2, () -> loom.counted(10, 1, 0, 1440, 1));
    }

    private static void twentyForEachNodeAndPurpose() {
        VisitorLoom loom = new VisitorLoom();
        for (int change = 1; change <= 20; change++) {
            int each = change;
            checks.due("change " + change, change, () -> loom.consent(5, 0, each, true));
        }
        checks.wrongState("the 21st", () -> loom.consent(5, 0, 0, true));
        checks.wrongArgument("argument goes first", () -> loom.consent(5, 0, -1, true));
        loom.event(1, 0, 5, 0, -1, 1);
        loom.event(2, 0, 5, 0, -1, 25);
        checks.due("all count", 2, () -> loom.counted(5, 0, 0, 1440, 2));
        checks.wrongState("the 21st again", () -> loom.consent(5, 0, 20, false));
        checks.due("it changed nothing", 2, () -> loom.counted(5, 0, 0, 1440, 2));
        checks.due("another purpose", 1, () -> loom.consent(5, 1, 0, true));
        checks.due("another node", 1, () -> loom.consent(6, 0, 0, true));
        loom.forget(5);
        checks.due("told anew", 1, () -> loom.consent(5, 0, 0, true));
    }

    private static void lastOneOfAMinute() {
        VisitorLoom loom = new VisitorLoom();
        loom.event(1, 0, -1, 0, -1, 100);
        loom.consent(10, 0, 100, true);
        loom.consent(10, 0, 100, false);
        checks.due("last is not given", 0, () -> loom.counted(10, 0, 0, 1440, 1));
        loom.consent(10, 0, 99, true);
        checks.due("an earlier minute does not help", 0, () -> loom.counted(10, 0, 0, 1440, 1));
        loom.consent(10, 0, 100, true);
        checks.due("last is given", 1, () -> loom.counted(10, 0, 0, 1440, 1));
        loom.consent(10, 0, 101, false);
        checks.due("a later minute does not hurt", 1, () -> loom.counted(10, 0, 0, 1440, 1));
    }

    private static void accountGoesAheadOfDevice() {
        VisitorLoom loom = new VisitorLoom();
        loom.event(1, 0, 3, 0, -1, 100);
        loom.event(2, 0, -1, 0, -1, 100);
        loom.consent(10, 0, 0, true);
        checks.due("device's counts without account", 1, () -> loom.counted(3, 0, 0, 1440, 1));
        loom.consent(3, 0, 0, true);
        checks.due("account's counts with it", 2, () -> loom.counted(3, 0, 0, 1440, 1));
        loom.consent(10, 0, 0, false);
        checks.due("each alone", 1, () -> loom.counted(3, 0, 0, 1440, 1));
        loom.link(0, 3, false);
        checks.due("of its account also where the link is withdrawn", 1, () -> loom.counted(10, 0, 0, 1440, 1));
    }

    private static void followsTheSkew() {
        VisitorLoom loom = new VisitorLoom();
        loom.event(1, 0, -1, 0, -1, 100);
        loom.consent(10, 0, 90, true);
        checks.due("given", 1, () -> loom.counted(10, 0, 0, 1440, 2));
        loom.skew(0, 10);
        checks.due("just given", 1, () -> loom.counted(10, 0, 0, 1440, 2));
        loom.skew(0, 11);
        checks.due("not yet given", 0, () -> loom.counted(10, 0, 0, 1440, 2));
    }
}
