/** Promise 4: share. */
public final class ShareTest {
    private static final Checks checks = new Checks();

    public static void main(String[] args) {
        answersWhetherItWas();
        wrongArguments();
        loosensAndLinksAgain();
        eventsGoToTheirAccounts();
        eventsWhileShared();
        withdrawnOnSharedDevice();
        checks.end();
    }

    private static void answersWhetherItWas() {
        VisitorLoom loom = new VisitorLoom();
        checks.due("not at first", 0, () -> Checks.bit(loom.share(9, false)));
        checks.due("still not", 0, () -> Checks.bit(loom.share(9, true)));
        checks.due("now", 1, () -> Checks.bit(loom.share(9, true)));
        checks.due("still", 1, () -> Checks.bit(loom.share(9, false)));
        checks.due("no more", 0, () -> Checks.bit(loom.share(9, false)));
        checks.due("another", 0, () -> Checks.bit(loom.share(0, false)));
    }

    private static void wrongArguments() {
        VisitorLoom loom = new VisitorLoom();
        for (int device : new int[] {-1, 10, 19, Integer.MIN_VALUE, Integer.MAX_VALUE}) {
            checks.wrongArgument("device " + device, () -> Checks.bit(loom.share(device, true)));
        }
    }

    private static void loosensAndLinksAgain() {
        VisitorLoom loom = new VisitorLoom();
        loom.event(1, 0, 3, 0, -1, 1440);
        loom.event(2, 0, 5, 0, -1, 1440);
        checks.due("linked over the device", 3, () -> loom.profile(5));
        loom.share(0, true);
        checks.due("apart", 5, () -> loom.profile(5));
        checks.due("device alone", 10, () -> loom.profile(10));
        loom.share(0, false);
        checks.due("linked again", 3, () -> loom.profile(5));
        checks.due("device too", 3, () -> loom.profile(10));
    }

    private static void eventsGoToTheirAccounts() {
        VisitorLoom loom = new VisitorLoom();
        loom.event(1, 0, 3, 0, -1, 1440);
        loom.event(2, 0, 5, 0, -1, 1441);
        loom.event(3, 0, -1, 0, -1, 1442);
        checks.due("all are together", 3, () -> loom.events(10, -1));
        loom.share(0, true);
        checks.due("account 3", 1, () -> loom.eventAt(3, 0));
        checks.due("one of 3", 1, () -> loom.events(3, -1));
        checks.due("account 5", 2, () -> loom.eventAt(5, 0));
        checks.due("without account", 3, () -> loom.eventAt(10, 0));
        checks.due("one of the device", 1, () -> loom.events(10, -1));
    }

    private static void eventsWhileShared() {
        VisitorLoom loom = new VisitorLoom();
        loom.share(0, true);
        loom.event(1, 0, 3, 0, -1, 1440);
        checks.due("not linked", 10, () -> loom.profile(10));
        loom.share(0, false);
        checks.due("linked, when shared no more", 3, () -> loom.profile(10));
    }

    private static void withdrawnOnSharedDevice() {
        VisitorLoom loom = new VisitorLoom();
        loom.event(1, 0, 3, 0, -1, 1440);
        loom.link(0, 3, false);
        checks.due("belongs to its device", 1, () -> loom.events(10, -1));
        loom.share(0, true);
        checks.due("belongs to its account", 1, () -> loom.events(3, -1));
        checks.due("not to its device", 0, () -> loom.events(10, -1));
    }
}
