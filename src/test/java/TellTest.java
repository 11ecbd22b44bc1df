/** Promises 19, 20 and 21: tell, told and toldInAll. */
public final class TellTest {
    private static final Checks checks = new Checks();

    public static void main(String[] args) {
        entersAndLeavesOnce();
        ordersByGroupAndNode();
        latestTellAlone();
        backBeforeItIsTold();
        forgettingLeaves();
        mostChanges();
        checks.end();
    }

    private static void tells(VisitorLoom loom, int... changes) {
        checks.due("tell", changes.length, () -> loom.tell());
        for (int place = 0; place < changes.length; place++) {
            int each = place;
            checks.due("told " + place, changes[place], () -> loom.told(each));
        }
        for (int bad : new int[] {changes.length, -1, 160, Integer.MIN_VALUE, Integer.MAX_VALUE}) {
            checks.wrongPlace("told " + bad, () -> loom.told(bad));
        }
    }

    private static void entersAndLeavesOnce() {
        VisitorLoom loom = new VisitorLoom();
        loom.group(0, 0, 1, 1);
        loom.consent(3, 0, 0, true);
        loom.event(1, 4, 3, 0, -1, 1440);
        tells(loom, 3, 14);
        tells(loom);
        loom.pass(1439);
        tells(loom);
        loom.pass(1);
        tells(loom, 1003, 1014);
        tells(loom);
        checks.due("in all", 4, () -> loom.toldInAll());
    }

    private static void ordersByGroupAndNode() {
        VisitorLoom loom = new VisitorLoom();
        loom.group(0, 0, 1, 30);
        loom.group(0, 0, 2, 30);
        loom.consent(1, 0, 0, true);
        loom.consent(2, 0, 0, true);
        loom.event(1, 0, 1, 0, -1, 1440);
        loom.event(2, 0, 2, 4, -1, 1440);
        tells(loom, 1, 2, 10);
        loom.event(3, 5, 2, 0, -1, 1440);
        tells(loom, 15, 101, 102, 110, 115);
        loom.event(4, 6, 0, 4, -1, 1440);
        loom.event(5, 6, 2, 4, -1, 1440);
        loom.link(0, 2, false);
        tells(loom, 0, 16, 1101, 1102, 1110, 1115);
        loom.consent(1, 0, 0, false);
        loom.event(6, 9, 2, 0, -1, 1440);
        tells(loom, 1001, 1010, 19, 100, 102, 115, 116, 119);
    }

    private static void latestTellAlone() {
        VisitorLoom loom = new VisitorLoom();
        loom.group(0, 0, 1, 30);
        loom.consent(10, 0, 0, true);
        loom.event(1, 0, -1, 0, -1, 1440);
        checks.wrongPlace("nothing was told yet", () -> loom.told(0));
        tells(loom, 10);
        loom.consent(10, 0, 0, false);
        checks.due("of the latest tell", 10, () -> loom.told(0));
        tells(loom, 1010);
        tells(loom);
        checks.due("in all", 2, () -> loom.toldInAll());
    }

    private static void backBeforeItIsTold() {
        VisitorLoom loom = new VisitorLoom();
        loom.group(0, 0, 1, 30);
        loom.event(1, 0, -1, 0, -1, 1440);
        loom.consent(10, 0, 0, true);
        loom.consent(10, 0, 0, false);
        tells(loom);
        loom.consent(10, 0, 0, true);
        tells(loom, 10);
        loom.consent(10, 0, 0, false);
        loom.consent(10, 0, 0, true);
        tells(loom);
        checks.due("in all", 1, () -> loom.toldInAll());
    }

    private static void forgettingLeaves() {
        VisitorLoom loom = new VisitorLoom();
        loom.group(0, 0, 1, 30);
        loom.consent(0, 0, 0, true);
        loom.event(1, 0, 0, 0, -1, 1440);
        tells(loom, 0, 10);
        loom.forget(0);
        tells(loom, 1000, 1010);
    }

    private static void mostChanges() {
        VisitorLoom loom = new VisitorLoom();
        int number = 0;
        for (int group = 0; group < 8; group++) {
            loom.group(0, 0, 1, 30);
        }
        for (int node = 0; node < 10; node++) {
            loom.consent(node, 0, 0, true);
            loom.event(number++, node, node, 0, -1, 1440);
        }
        checks.due("all", 160, () -> loom.tell());
        for (int place = 0; place < 160; place++) {
            int each = place;
            checks.due("told", place / 20 * 100 + place % 20, () -> loom.told(each));
        }
        loom.pass(20000);
        loom.pass(20000);
        loom.pass(20000);
        checks.due("all", 160, () -> loom.tell());
        checks.due("first", 1000, () -> loom.told(0));
        checks.due("last", 1719, () -> loom.told(159));
        checks.wrongPlace("behind the last", () -> loom.told(160));
        checks.due("in all", 320, () -> loom.toldInAll());
    }
}
