/** Promise 8: forget. */
public final class ForgetTest {
    private static final Checks checks = new Checks();

    public static void main(String[] args) {
        takesEventsAndLinksAway();
        wrongArguments();
        takesConsentAway();
        sharedAndWithdrawn();
        skewsAndSharesStay();
        numbersStayTaken();
        orderStays();
        checks.end();
    }

    private static void takesEventsAndLinksAway() {
        VisitorLoom loom = new VisitorLoom();
        loom.event(1, 0, 1, 0, -1, 1440);
        loom.event(2, 0, -1, 0, -1, 1441);
        loom.event(3, 1, 1, 0, -1, 1442);
        loom.event(4, 2, 2, 0, -1, 1443);
        checks.due("of its profile", 3, () -> loom.forget(11));
        checks.due("no events", 0, () -> loom.events(1, -1));
        checks.due("no link", 10, () -> loom.profile(10));
        checks.due("no link anew", 11, () -> loom.profileAnew(11));
        checks.due("no time", -1, () -> loom.time(2));
        checks.due("the others stay", 1, () -> loom.events(2, -1));
        checks.due("and their links", 2, () -> loom.profile(12));
        checks.due("nothing is left", 0, () -> loom.forget(11));
    }

    private static void wrongArguments() {
        VisitorLoom loom = new VisitorLoom();
        loom.event(1, 0, 0, 0, -1, 1440);
        loom.event(2, 9, 9, 0, -1, 1440);
        for (int bad : new int[] {-1, 20, Integer.MIN_VALUE, Integer.MAX_VALUE}) {
            checks.wrongArgument("forget " + bad, () -> loom.forget(bad));
        }
        checks.due("nothing changed", 1, () -> loom.events(0, -1));
        checks.due("nothing changed", 1, () -> loom.events(19, -1));
    }

    private static void takesConsentAway() {
        VisitorLoom loom = new VisitorLoom();
        for (int purpose = 0; purpose < 4; purpose++) {
            loom.consent(1, purpose, 0, true);
            loom.consent(10, purpose, 0, true);
            loom.consent(5, purpose, 0, true);
        }
        loom.event(1, 0, 1, 0, -1, 1440);
        loom.forget(10);
        loom.event(2, 0, 1, 0, -1, 1440);
        loom.event(3, 0, -1, 0, -1, 1440);
        loom.event(4, 5, 5, 0, -1, 1440);
        for (int purpose = 0; purpose < 4; purpose++) {
            int each = purpose;
            checks.due("none of the profile", 0, () -> loom.counted(1, each, 0, 1440, 1));
            checks.due("another node's stays", 1, () -> loom.counted(5, each, 0, 1440, 1));
            checks.due("counted anew", 1, () -> loom.consent(1, each, 0, true));
            checks.due("counted anew", 1, () -> loom.consent(10, each, 0, true));
            checks.due("counted on", 2, () -> loom.consent(5, each, 0, true));
        }
    }

    private static void sharedAndWithdrawn() {
        VisitorLoom loom = new VisitorLoom();
        loom.event(1, 0, 1, 0, -1, 1440);
        loom.event(2, 0, 2, 0, -1, 1440);
        loom.event(3, 0, -1, 0, -1, 1440);
        loom.share(0, true);
        checks.due("the account's on a shared device", 1, () -> loom.forget(1));
        checks.due("the device's own", 1, () -> loom.forget(10));
        checks.due("the other account's stays", 1440, () -> loom.time(2));
        VisitorLoom other = new VisitorLoom();
        other.event(1, 0, 1, 0, -1, 1440);
        other.link(0, 1, false);
        checks.due("it belongs to the device", 0, () -> other.forget(1));
        checks.due("so it goes with it", 1, () -> other.forget(10));
    }

    private static void skewsAndSharesStay() {
        VisitorLoom loom = new VisitorLoom();
        loom.skew(0, 17);
        loom.share(0, true);
        loom.link(0, 4, false);
        loom.event(1, 0, -1, 0, -1, 1440);
        loom.forget(10);
        checks.due("skew", 17, () -> loom.skew(0, 17));
        checks.due("share", 1, () -> Checks.bit(loom.share(0, true)));
        checks.due("withdrawn", 0, () -> Checks.bit(loom.link(0, 4, false)));
        loom.event(2, 0, 4, 0, -1, 1440);
        checks.due("time less skew", 1423, () -> loom.time(2));
    }

    private static void numbersStayTaken() {
        VisitorLoom loom = new VisitorLoom();
        loom.event(1, 0, 1, 0, -1, 1440);
        loom.forget(1);
        checks.due("not once more", 0, () -> Checks.bit(loom.event(1, 0, 1, 0, -1, 1440)));
        checks.due("no event", 0, () -> loom.events(1, -1));
        checks.due("no link", 1, () -> loom.profile(1));
    }

    private static void orderStays() {
        VisitorLoom loom = new VisitorLoom();
        for (int number = 0; number < 20; number++) {
            loom.event(number, number % 3, -1, 0, -1, 1440 - number % 4);
        }
        loom.forget(11);
        for (int device : new int[] {0, 2}) {
            int before = -1;
            int count = loom.events(10 + device, -1);
            for (int place = 0; place < count; place++) {
                int number = loom.eventAt(10 + device, place);
                int key = loom.time(number) * 1000 + number;
                checks.yes("in order at " + place, key > before && number % 3 == device);
                before = key;
            }
        }
        loom.event(100, 0, -1, 0, -1, 0);
        loom.event(101, 0, -1, 0, -1, 5000);
        checks.due("first", 100, () -> loom.eventAt(10, 0));
        checks.due("last", 101, () -> loom.eventAt(10, loom.events(10, -1) - 1));
        loom.forget(10);
        loom.event(102, 0, -1, 0, -1, 10);
        loom.event(103, 0, -1, 0, -1, 9);
        checks.due("first", 103, () -> loom.eventAt(10, 0));
        checks.due("second", 102, () -> loom.eventAt(10, 1));
        checks.due("device 2's", 6, () -> loom.events(12, -1));
    }
}
