/** Promises 7 and 18: group and groups. */
public final class GroupTest {
    private static final Checks checks = new Checks();

    public static void main(String[] args) {
        eightAreNumbered();
        wrongArguments();
        leastAndKindAndPurpose();
        spanEndsWithNow();
        allNodesOfAProfile();
        checks.end();
    }

    private static void eightAreNumbered() {
        VisitorLoom loom = new VisitorLoom();
        for (int number = 0; number < 8; number++) {
            checks.due("group " + number, number, () -> loom.group(3, 4, 20, 30));
        }
        checks.wrongState("the ninth", () -> loom.group(0, 0, 1, 1));
        checks.wrongArgument("argument goes first", () -> loom.group(0, 0, 0, 1));
    }

    private static void wrongArguments() {
        VisitorLoom loom = new VisitorLoom();
        int[] good = {3, 4, 20, 30};
        int[] low = {-1, -1, 0, 0};
        int[] high = {4, 5, 21, 31};
        for (int i = 0; i < good.length; i++) {
            for (int bad : new int[] {low[i], high[i], Integer.MIN_VALUE, Integer.MAX_VALUE}) {
                int[] call = good.clone();
                call[i] = bad;
                checks.wrongArgument("group" + java.util.Arrays.toString(call),
                        () -> loom.group(call[0], call[1], call[2], call[3]));
            }
        }
        checks.due("none was added", 0, () -> loom.group(0, 0, 1, 1));
        for (int bad : new int[] {-1, 20, Integer.MIN_VALUE, Integer.MAX_VALUE}) {
            checks.wrongArgument("groups " + bad, () -> loom.groups(bad));
        }
    }

    private static void leastAndKindAndPurpose() {
        VisitorLoom loom = new VisitorLoom();
        loom.group(0, 0, 1, 1);
        loom.group(0, 0, 2, 1);
        loom.group(0, 1, 1, 1);
        loom.group(1, 0, 1, 1);
        loom.consent(2, 0, 0, true);
        loom.event(1, 0, 2, 0, -1, 1440);
        checks.due("one event", 1, () -> loom.groups(2));
        loom.event(2, 0, 2, 0, -1, 1440);
        checks.due("two events", 3, () -> loom.groups(2));
        loom.event(3, 0, 2, 1, -1, 1440);
        checks.due("another kind", 7, () -> loom.groups(2));
        loom.consent(2, 1, 0, true);
        checks.due("another purpose", 15, () -> loom.groups(2));
        for (int number = 4; number < 8; number++) {
            loom.group(0, 0, 1, 1);
        }
        checks.due("all eight", 255, () -> loom.groups(2));
    }

    private static void spanEndsWithNow() {
        VisitorLoom loom = new VisitorLoom();
        loom.group(0, 0, 1, 1);
        loom.consent(10, 0, 0, true);
        loom.event(1, 0, -1, 0, -1, 1441);
        checks.due("later than now", 0, () -> loom.groups(10));
        loom.pass(1);
        checks.due("at now", 1, () -> loom.groups(10));
        loom.pass(1439);
        checks.due("within a day", 1, () -> loom.groups(10));
        loom.pass(1);
        checks.due("a day ago", 0, () -> loom.groups(10));
        loom.skew(0, -1);
        checks.due("moved by the skew", 1, () -> loom.groups(10));
    }

    private static void allNodesOfAProfile() {
        VisitorLoom loom = new VisitorLoom();
        loom.group(0, 0, 2, 30);
        loom.consent(1, 0, 0, true);
        loom.consent(2, 0, 0, true);
        loom.event(1, 0, 1, 0, -1, 1440);
        loom.event(2, 1, 2, 0, -1, 1440);
        checks.due("not yet", 0, () -> loom.groups(1));
        loom.event(3, 1, 1, 4, -1, 1440);
        for (int node : new int[] {1, 2, 10, 11}) {
            checks.due("node " + node, 1, () -> loom.groups(node));
        }
        checks.due("another node", 0, () -> loom.groups(0));
        loom.share(1, true);
        checks.due("no more", 0, () -> loom.groups(1));
    }
}
