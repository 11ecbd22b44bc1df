/** Promise 2: event. */
public final class EventTest {
    private static final Checks checks = new Checks();

    public static void main(String[] args) {
        edgesAreTaken();
        wrongArguments();
        numberIsTakenOnce();
        twoHundredInAll();
        forgottenOnesCountToo();
        linksByAccount();
        checks.end();
    }

    private static void take(VisitorLoom loom, long want, int[] a) {
        checks.due("event" + java.util.Arrays.toString(a), want,
                () -> Checks.bit(loom.event(a[0], a[1], a[2], a[3], a[4], a[5])));
    }

    private static void refuse(VisitorLoom loom, int... a) {
        checks.wrongArgument("event" + java.util.Arrays.toString(a),
                () -> Checks.bit(loom.event(a[0], a[1], a[2], a[3], a[4], a[5])));
    }

    private static void edgesAreTaken() {
        VisitorLoom loom = new VisitorLoom();
        take(loom, 1, new int[] {0, 0, -1, 0, -1, 0});
        take(loom, 1, new int[] {999, 9, 9, 4, 9, 100000});
        take(loom, 1, new int[] {500, 9, 0, 2, 0, 100000});
        checks.due("time 0", 0, () -> loom.time(0));
        checks.due("time 999", 100000, () -> loom.time(999));
        checks.due("profile 19", 0, () -> loom.profile(19));
        checks.due("profile 9", 0, () -> loom.profile(9));
        checks.due("events of kind 4", 1, () -> loom.events(0, 4));
        checks.due("first of one time", 999, () -> loom.eventAt(0, 0));
        checks.due("second of one time", 500, () -> loom.eventAt(0, 1));
    }

    private static void wrongArguments() {
        VisitorLoom loom = new VisitorLoom();
        int[] good = {7, 3, 2, 1, 4, 1440};
        int[] low = {-1, -1, -2, -1, -2, -1};
        int[] high = {1000, 10, 10, 5, 10, 100001};
        for (int i = 0; i < good.length; i++) {
            for (int bad : new int[] {low[i], high[i], Integer.MIN_VALUE, Integer.MAX_VALUE}) {
                int[] call = good.clone();
                call[i] = bad;
                refuse(loom, call);
            }
        }
        checks.due("nothing was taken", 0, () -> loom.events(2, -1));
        checks.due("nothing was linked", 13, () -> loom.profile(13));
        take(loom, 1, good);
        refuse(loom, 7, 3, 2, 1, 4, -1);
    }

    private static void numberIsTakenOnce() {
        VisitorLoom loom = new VisitorLoom();
        take(loom, 1, new int[] {7, 3, 2, 1, 4, 1440});
        take(loom, 0, new int[] {7, 3, 2, 1, 4, 1440});
        take(loom, 0, new int[] {7, 5, 1, 0, -1, 9});
        checks.due("time stays", 1440, () -> loom.time(7));
        checks.due("not linked by it", 15, () -> loom.profile(15));
        checks.due("one event", 1, () -> loom.events(2, -1));
    }

    private static void twoHundredInAll() {
        VisitorLoom loom = new VisitorLoom();
        for (int number = 0; number < 200; number++) {
            take(loom, 1, new int[] {number, number % 10, -1, 0, -1, 1440});
        }
        checks.wrongState("the 201st", () -> Checks.bit(loom.event(200, 0, 0, 0, -1, 1440)));
        refuse(loom, 200, 0, 0, 0, -1, -1);
        take(loom, 0, new int[] {199, 0, 0, 0, -1, 1440});
        checks.due("not taken", -1, () -> loom.time(200));
        checks.due("not linked", 10, () -> loom.profile(10));
    }

    private static void forgottenOnesCountToo() {
        VisitorLoom loom = new VisitorLoom();
        for (int number = 0; number < 200; number++) {
            take(loom, 1, new int[] {number, 0, -1, 0, -1, number});
        }
        checks.due("forget", 200, () -> loom.forget(10));
        checks.wrongState("the 201st", () -> Checks.bit(loom.event(999, 0, -1, 0, -1, 1440)));
        take(loom, 0, new int[] {0, 0, -1, 0, -1, 1440});
    }

    private static void linksByAccount() {
        VisitorLoom loom = new VisitorLoom();
        take(loom, 1, new int[] {1, 0, -1, 0, -1, 1440});
        checks.due("without account", 10, () -> loom.profile(10));
        take(loom, 1, new int[] {2, 0, 4, 0, -1, 90000});
        checks.due("linked for its earlier events too", 2, () -> loom.events(4, -1));
    }
}
