import java.io.IOException;

/** The document's terms "Events" and "Who is who", sentence by sentence. */
public final class EventTermsTest {
    private static final String EVENTS = "Events";
    private static final String WHO = "Who is who";
    private static final Checks checks = new Checks();

    public static void main(String[] args) throws IOException {
        Sentences sentences = new Sentences(checks, EVENTS, WHO);
        sentences.test(EVENTS, "The minute of now is 1440 at first", EventTermsTest::nowAtFirst);
        sentences.test(EVENTS, "a day is 1440 minutes, of which the first one is divisible", EventTermsTest::days);
        sentences.test(EVENTS, "count as the nodes 0 to 9 and 10 to 19", EventTermsTest::accountsAndDevicesAreNodes);
        sentences.test(EVENTS, "An event has a number, 0 to 999", EventTermsTest::lowestAndHighestEvent);
        sentences.test(EVENTS, "perhaps an account", EventTermsTest::eventWithoutAccountAndCampaign);
        sentences.test(EVENTS, "A number that came already", EventTermsTest::numberThatCame);
        sentences.test(EVENTS, "or that was forgotten, is not taken once more", EventTermsTest::numberThatWasForgotten);
        sentences.test(EVENTS, "At most 200 are taken in all", EventTermsTest::twoHundred);
        sentences.test(EVENTS, "those that are forgotten included", EventTermsTest::forgottenAreIncluded);
        sentences.test(EVENTS, "A device has a skew, 0 at first", EventTermsTest::skewAtFirst);
        sentences.test(EVENTS, "of -600 to 600 minutes", EventTermsTest::leastAndMostSkew);
        sentences.test(EVENTS, "the time of each of its events, also of earlier ones", EventTermsTest::skewOfEachEvent);
        sentences.test(EVENTS, "the one that was told less the skew of now", EventTermsTest::skewOfNow);
        sentences.test(EVENTS, "but at least 0", EventTermsTest::timeIsAtLeastZero);
        sentences.test(EVENTS, "Events are in the order of their times", EventTermsTest::orderOfTimes);
        sentences.test(EVENTS, "those of one time in that in which they came", EventTermsTest::orderOfComing);
        sentences.test(WHO, "A device can be shared", EventTermsTest::eachDeviceCanBeShared);
        sentences.test(WHO, "An event with an account links its device", EventTermsTest::linksByAccountAlone);
        sentences.test(WHO, "if that is not shared now", EventTermsTest::notSharedNow);
        sentences.test(WHO, "to the account, for all its events", EventTermsTest::forAllItsEvents);
        sentences.test(WHO, "which counts for events that came, and come", EventTermsTest::withdrawn);
        sentences.test(WHO, "until the link is allowed again", EventTermsTest::allowedAgain);
        sentences.test(WHO, "all nodes that are linked, directly or over others", EventTermsTest::linkedOverOthers);
        sentences.test(WHO, "each node belongs to just one", EventTermsTest::eachNodeInOneProfile);
        sentences.test(WHO, "which is named by its lowest node", EventTermsTest::lowestNode);
        sentences.test(WHO, "An event belongs to the profile of its device", EventTermsTest::eventOfItsDevice);
        sentences.test(WHO, "on a shared device to that of its account", EventTermsTest::eventOnSharedDevice);
        sentences.allHaveTests();
        checks.end();
    }

    private static boolean came(VisitorLoom loom, int number, int device, int account, int time) {
        return loom.event(number, device, account, 0, VisitorLoom.NONE, time);
    }

    private static void order(VisitorLoom loom, int node, int... numbers) {
        checks.due("events", numbers.length, () -> loom.events(node, VisitorLoom.NONE));
        for (int place = 0; place < numbers.length; place++) {
            int each = place;
            checks.due("at place " + place, numbers[place], () -> loom.eventAt(node, each));
        }
    }

    private static void nowAtFirst() {
        checks.due("a minute on", 1441, () -> new VisitorLoom().pass(1));
        checks.due("consent from now", 1, () -> new VisitorLoom().consent(0, 0, 1440, true));
        checks.wrongArgument("consent from later on", () -> new VisitorLoom().consent(0, 0, 1441, true));
        VisitorLoom loom = new VisitorLoom();
        loom.group(0, 0, 1, 1);
        loom.consent(10, 0, 0, true);
        loom.consent(11, 0, 0, true);
        came(loom, 1, 0, -1, 1440);
        came(loom, 2, 1, -1, 1441);
        checks.due("at now", 1, () -> loom.groups(10));
        checks.due("later than now", 0, () -> loom.groups(11));
    }

    private static void days() {
        int[] firsts = {1440, 2880, 14400, 99360};
        for (int first : firsts) {
            VisitorLoom loom = new VisitorLoom();
            came(loom, 1, 0, -1, first - 1);
            came(loom, 2, 0, -1, first);
            checks.due("cut at " + first, 2, () -> loom.sessions(10));
            came(loom, 3, 1, -1, first);
            came(loom, 4, 1, -1, first + 1);
            checks.due("not cut behind " + first, 1, () -> loom.sessions(11));
            came(loom, 5, 2, -1, first - 2);
            came(loom, 6, 2, -1, first - 1);
            checks.due("not cut ahead of " + first, 1, () -> loom.sessions(12));
        }
        VisitorLoom loom = new VisitorLoom();
        came(loom, 1, 0, -1, 0);
        came(loom, 2, 0, -1, 1);
        checks.due("the first day begins with 0", 1, () -> loom.sessions(10));
        came(loom, 3, 1, -1, 98759);
        came(loom, 4, 1, -1, 98760);
        checks.due("within a day", 1, () -> loom.sessions(11));
        loom.skew(1, -600);
        checks.due("on two days, by the skew", 2, () -> loom.sessions(11));
    }

    private static void accountsAndDevicesAreNodes() {
        for (int device = 0; device < 10; device++) {
            for (int account = 0; account < 10; account++) {
                int accountNode = account;
                int deviceNode = 10 + device;
                VisitorLoom loom = new VisitorLoom();
                came(loom, 5, device, account, 1440);
                checks.due("profile of the device", accountNode, () -> loom.profile(deviceNode));
                checks.due("profile of the account", accountNode, () -> loom.profile(accountNode));
                checks.due("event of the device", 5, () -> loom.eventAt(deviceNode, 0));
                checks.due("event of the account", 5, () -> loom.eventAt(accountNode, 0));
                int all = 0;
                for (int node = 0; node < 20; node++) {
                    all += loom.events(node, VisitorLoom.NONE);
                }
                checks.yes("of no other node", all == 2);
            }
        }
    }

    private static void lowestAndHighestEvent() {
        VisitorLoom loom = new VisitorLoom();
        checks.due("lowest", 1, () -> Checks.bit(loom.event(0, 0, 0, 0, 0, 0)));
        checks.due("highest", 1, () -> Checks.bit(loom.event(999, 9, 9, 4, 9, 100000)));
        checks.due("lowest's number", 0, () -> loom.eventAt(0, 0));
        checks.due("lowest's device", 0, () -> loom.profile(10));
        checks.due("lowest's kind", 1, () -> loom.events(0, 0));
        checks.due("lowest's campaign", 0, () -> loom.session(0, 0, 3));
        checks.due("lowest's time", 0, () -> loom.time(0));
        checks.due("highest's number", 999, () -> loom.eventAt(9, 0));
        checks.due("highest's device", 9, () -> loom.profile(19));
        checks.due("highest's kind", 1, () -> loom.events(9, 4));
        checks.due("highest's campaign", 9, () -> loom.session(9, 0, 3));
        checks.due("highest's time", 100000, () -> loom.time(999));
    }

    private static void eventWithoutAccountAndCampaign() {
        VisitorLoom loom = new VisitorLoom();
        checks.due("taken", 1, () -> Checks.bit(loom.event(1, 0, VisitorLoom.NONE, 0, VisitorLoom.NONE, 1440)));
        checks.due("no account", 10, () -> loom.profile(10));
        checks.due("no account's event", 0, () -> loom.events(0, -1));
        checks.due("no campaign", VisitorLoom.NONE, () -> loom.session(10, 0, 3));
    }

    private static void numberThatCame() {
        for (int number : new int[] {0, 1, 500, 998, 999}) {
            VisitorLoom loom = new VisitorLoom();
            checks.due("came", 1, () -> Checks.bit(loom.event(number, 0, 0, 0, 0, 1440)));
            checks.due("came twice", 0, () -> Checks.bit(loom.event(number, 0, 0, 0, 0, 1440)));
            checks.due("came as another one", 0, () -> Checks.bit(loom.event(number, 1, 1, 1, 1, 2000)));
            checks.due("its time stays", 1440, () -> loom.time(number));
            checks.due("its kind stays", 0, () -> loom.events(0, 1));
            checks.due("its campaign stays", 0, () -> loom.session(0, 0, 3));
            checks.due("it stays one", 1, () -> loom.events(0, -1));
            checks.due("the other device isn't linked", 11, () -> loom.profile(11));
            int neighbour = number == 0 ? 1 : number - 1;
            checks.due("another number", 1, () -> Checks.bit(came(loom, neighbour, 1, 1, 1440)));
        }
    }

    private static void numberThatWasForgotten() {
        for (int number : new int[] {0, 7, 999}) {
            VisitorLoom loom = new VisitorLoom();
            came(loom, number, 0, 3, 1440);
            loom.forget(3);
            checks.due("forgotten", 0, () -> Checks.bit(came(loom, number, 0, 3, 1440)));
            checks.due("from another device", 0, () -> Checks.bit(came(loom, number, 5, -1, 99)));
            checks.due("no time", -1, () -> loom.time(number));
            checks.due("no event", 0, () -> loom.events(3, -1));
            checks.due("no event", 0, () -> loom.events(15, -1));
            checks.due("no link", 10, () -> loom.profile(10));
            checks.due("another number", 1, () -> Checks.bit(came(loom, 500, 0, 3, 1440)));
        }
    }

    private static void twoHundred() {
        VisitorLoom loom = new VisitorLoom();
        for (int event = 1; event <= 200; event++) {
            int number = 1000 - event;
            checks.due("event " + event, 1, () -> Checks.bit(came(loom, number, number % 10, -1, number)));
        }
        checks.wrongState("event 201", () -> Checks.bit(came(loom, 799, 0, -1, 1440)));
        checks.due("it wouldn't be taken", 0, () -> Checks.bit(came(loom, 800, 0, -1, 1440)));
        checks.wrongState("event 201 again", () -> Checks.bit(came(loom, 799, 0, -1, 1440)));
        int all = 0;
        for (int node = 10; node < 20; node++) {
            all += loom.events(node, -1);
        }
        checks.yes("200 are there", all == 200);
    }

    private static void forgottenAreIncluded() {
        VisitorLoom loom = new VisitorLoom();
        for (int number = 0; number < 199; number++) {
            came(loom, number, number % 2, -1, 1440);
        }
        checks.due("some are forgotten", 100, () -> loom.forget(10));
        checks.due("event 200", 1, () -> Checks.bit(came(loom, 199, 5, -1, 1440)));
        checks.wrongState("event 201", () -> Checks.bit(came(loom, 200, 5, -1, 1440)));
        checks.due("all others are forgotten", 99, () -> loom.forget(11));
        checks.due("the last one too", 1, () -> loom.forget(15));
        checks.wrongState("event 201, with none left", () -> Checks.bit(came(loom, 200, 5, -1, 1440)));
        checks.due("a forgotten number", 0, () -> Checks.bit(came(loom, 0, 5, -1, 1440)));
    }

    private static void skewAtFirst() {
        for (int device = 0; device < 10; device++) {
            int each = device;
            VisitorLoom loom = new VisitorLoom();
            came(loom, 1, device, -1, 1440);
            checks.due("the time as told", 1440, () -> loom.time(1));
            checks.due("skew of device " + device, 0, () -> loom.skew(each, 1));
        }
    }

    private static void leastAndMostSkew() {
        VisitorLoom loom = new VisitorLoom();
        came(loom, 1, 0, -1, 100000);
        came(loom, 2, 9, -1, 600);
        came(loom, 3, 9, -1, 601);
        checks.due("least", 0, () -> loom.skew(0, -600));
        checks.due("most", 0, () -> loom.skew(9, 600));
        checks.wrongArgument("less", () -> loom.skew(0, -601));
        checks.wrongArgument("more", () -> loom.skew(9, 601));
        checks.due("the latest time that can be", 100600, () -> loom.time(1));
        checks.due("600 less", 0, () -> loom.time(2));
        checks.due("600 less", 1, () -> loom.time(3));
    }

    private static void skewOfEachEvent() {
        VisitorLoom loom = new VisitorLoom();
        came(loom, 1, 4, -1, 1440);
        came(loom, 2, 4, 0, 1500);
        came(loom, 3, 5, 0, 1440);
        loom.skew(4, 60);
        came(loom, 4, 4, -1, 1600);
        checks.due("an earlier one", 1380, () -> loom.time(1));
        checks.due("an earlier one", 1440, () -> loom.time(2));
        checks.due("another device's", 1440, () -> loom.time(3));
        checks.due("a later one", 1540, () -> loom.time(4));
    }

    private static void skewOfNow() {
        VisitorLoom loom = new VisitorLoom();
        came(loom, 1, 0, -1, 1440);
        int[] skews = {100, 100, -600, 600, 1, 0};
        for (int skew : skews) {
            loom.skew(0, skew);
            checks.due("at skew " + skew, 1440 - skew, () -> loom.time(1));
        }
    }

    private static void timeIsAtLeastZero() {
        VisitorLoom loom = new VisitorLoom();
        came(loom, 1, 0, -1, 0);
        came(loom, 2, 0, -1, 99);
        came(loom, 3, 0, -1, 100);
        came(loom, 4, 0, -1, 101);
        loom.skew(0, 100);
        int[] due = {0, 0, 0, 1};
        for (int event = 0; event < due.length; event++) {
            int number = event + 1;
            checks.due("time of " + number, due[event], () -> loom.time(number));
        }
        loom.consent(10, 0, 0, true);
        checks.due("they count at minute 0", 3, () -> loom.counted(10, 0, 0, 0, 1));
        checks.due("their session begins at 0", 0, () -> loom.session(10, 0, 0));
        loom.skew(0, 0);
        checks.due("what was told is kept", 99, () -> loom.time(2));
    }

    private static void orderOfTimes() {
        VisitorLoom loom = new VisitorLoom();
        came(loom, 1, 0, 7, 300);
        came(loom, 2, 1, 7, 200);
        came(loom, 3, 2, 7, 100);
        came(loom, 4, 0, 7, 250);
        came(loom, 5, 1, 7, 400);
        order(loom, 7, 3, 2, 4, 1, 5);
        loom.skew(0, 100);
        order(loom, 7, 3, 4, 1, 2, 5);
        loom.skew(0, -150);
        order(loom, 7, 3, 2, 4, 5, 1);
        loom.skew(2, -600);
        order(loom, 7, 2, 4, 5, 1, 3);
    }

    private static void orderOfComing() {
        VisitorLoom loom = new VisitorLoom();
        came(loom, 9, 0, 7, 500);
        came(loom, 1, 1, 7, 500);
        came(loom, 5, 2, 7, 501);
        came(loom, 0, 0, 7, 500);
        came(loom, 3, 1, 7, 499);
        order(loom, 7, 3, 9, 1, 0, 5);
        loom.skew(2, 1);
        order(loom, 7, 3, 9, 1, 5, 0);
        loom.skew(0, 1);
        order(loom, 7, 9, 0, 3, 1, 5);
        loom.skew(0, 600);
        loom.skew(1, 600);
        loom.skew(2, 600);
        order(loom, 7, 9, 1, 5, 0, 3);
        loom.skew(1, 0);
        order(loom, 7, 9, 5, 0, 3, 1);
    }

    private static void eachDeviceCanBeShared() {
        for (int device = 0; device < 10; device++) {
            int each = device;
            VisitorLoom loom = new VisitorLoom();
            checks.due("not at first", 0, () -> Checks.bit(loom.share(each, true)));
            checks.due("shared", 1, () -> Checks.bit(loom.share(each, true)));
            for (int other = 0; other < 10; other++) {
                came(loom, other, other, other, 1440);
                int node = 10 + other;
                checks.due("profile " + node, other == device ? node : other, () -> loom.profile(node));
            }
        }
    }

    private static void linksByAccountAlone() {
        VisitorLoom loom = new VisitorLoom();
        came(loom, 1, 3, -1, 1440);
        checks.due("without one", 13, () -> loom.profile(13));
        came(loom, 2, 3, 9, 1440);
        checks.due("with one", 9, () -> loom.profile(13));
        checks.due("the account too", 9, () -> loom.profile(9));
        checks.due("no neighbour", 12, () -> loom.profile(12));
        checks.due("no neighbour", 8, () -> loom.profile(8));
        checks.due("the same anew", 9, () -> loom.profileAnew(13));
    }

    private static void notSharedNow() {
        VisitorLoom loom = new VisitorLoom();
        came(loom, 1, 3, 1, 1440);
        loom.share(3, true);
        checks.due("no link of what came", 13, () -> loom.profile(13));
        came(loom, 2, 3, 2, 1440);
        checks.due("no link of what comes", 13, () -> loom.profileAnew(13));
        checks.due("no link over it", 2, () -> loom.profile(2));
        loom.share(3, false);
        checks.due("all links, as it isn't shared now", 1, () -> loom.profile(13));
        checks.due("over it too", 1, () -> loom.profile(2));
        checks.due("the same anew", 1, () -> loom.profileAnew(2));
    }

    private static void forAllItsEvents() {
        VisitorLoom loom = new VisitorLoom();
        came(loom, 1, 3, -1, 1000);
        came(loom, 2, 3, 5, 1100);
        came(loom, 3, 3, -1, 1200);
        order(loom, 5, 1, 2, 3);
        came(loom, 4, 3, 6, 50);
        order(loom, 6, 4, 1, 2, 3);
    }

    private static void withdrawn() {
        VisitorLoom loom = new VisitorLoom();
        came(loom, 1, 3, 5, 1440);
        came(loom, 2, 4, 5, 1440);
        loom.link(3, 5, false);
        checks.due("of what came", 13, () -> loom.profile(13));
        came(loom, 3, 3, 5, 1440);
        checks.due("of what comes", 13, () -> loom.profile(13));
        checks.due("anew", 13, () -> loom.profileAnew(13));
        checks.due("another device's link stays", 5, () -> loom.profile(14));
        came(loom, 4, 3, 4, 1440);
        checks.due("another account's link comes", 4, () -> loom.profile(13));
        checks.due("not over the withdrawn one", 5, () -> loom.profile(5));
        order(loom, 13, 1, 3, 4);
        order(loom, 5, 2);
    }

    private static void allowedAgain() {
        VisitorLoom loom = new VisitorLoom();
        loom.link(3, 5, false);
        came(loom, 1, 3, 5, 1440);
        loom.link(3, 5, false);
        checks.due("withdrawn", 13, () -> loom.profile(13));
        loom.link(3, 4, true);
        checks.due("another one allowed", 13, () -> loom.profile(13));
        loom.link(3, 5, true);
        checks.due("allowed again", 5, () -> loom.profile(13));
        checks.due("anew", 5, () -> loom.profileAnew(13));
        loom.link(6, 6, true);
        checks.due("allowing alone links nothing", 16, () -> loom.profile(16));
    }

    /** A chain over all twenty nodes, put together from both ends and from the middle. */
    private static VisitorLoom chainOfAll() {
        VisitorLoom loom = new VisitorLoom();
        int number = 0;
        for (int start : new int[] {8, 0, 5, 3, 9, 1, 7, 2, 6, 4}) {
            came(loom, number++, start, start, 1440);
            if (start < 9) {
                came(loom, number++, start, start + 1, 1440);
            }
        }
        return loom;
    }

    private static void linkedOverOthers() {
        VisitorLoom loom = chainOfAll();
        for (int n = 0; n < 20; n++) {
            int node = n;
            checks.due("profile " + node, 0, () -> loom.profile(node));
            checks.due("profileAnew " + node, 0, () -> loom.profileAnew(node));
        }
        VisitorLoom direct = new VisitorLoom();
        came(direct, 1, 9, 9, 1440);
        checks.due("directly", 9, () -> direct.profile(19));
    }

    private static void eachNodeInOneProfile() {
        VisitorLoom loom = chainOfAll();
        loom.link(4, 4, false);
        loom.share(7, true);
        loom.link(9, 9, false);
        int[] due = {0, 0, 0, 0, 0, 5, 5, 5, 8, 8, 0, 0, 0, 0, 5, 5, 5, 17, 8, 19};
        for (int n = 0; n < 20; n++) {
            int node = n;
            checks.due("profile " + node, due[node], () -> loom.profile(node));
            checks.due("profileAnew " + node, due[node], () -> loom.profileAnew(node));
        }
        int all = 0;
        for (int lowest : new int[] {0, 5, 8, 17, 19}) {
            all += loom.events(lowest, -1);
        }
        checks.yes("each event in just one", all == 19);
    }

    private static void lowestNode() {
        VisitorLoom loom = new VisitorLoom();
        came(loom, 1, 0, 9, 1440);
        checks.due("an account is lower than a device", 9, () -> loom.profile(10));
        came(loom, 2, 0, 0, 1440);
        checks.due("the lower account", 0, () -> loom.profile(9));
        came(loom, 3, 0, 5, 1440);
        checks.due("a higher one changes nothing", 0, () -> loom.profile(5));
        loom.link(0, 0, false);
        checks.due("the next lowest", 5, () -> loom.profile(9));
        checks.due("alone", 0, () -> loom.profile(0));
        loom.share(0, true);
        checks.due("a device alone", 10, () -> loom.profile(10));
    }

    private static void eventOfItsDevice() {
        VisitorLoom loom = new VisitorLoom();
        came(loom, 1, 0, 5, 1440);
        came(loom, 2, 0, -1, 1440);
        order(loom, 5, 1, 2);
        loom.link(0, 5, false);
        order(loom, 5);
        order(loom, 10, 1, 2);
    }

    private static void eventOnSharedDevice() {
        VisitorLoom loom = new VisitorLoom();
        came(loom, 1, 0, 5, 1440);
        came(loom, 2, 0, -1, 1440);
        came(loom, 3, 1, 5, 1440);
        loom.share(0, true);
        came(loom, 4, 0, 6, 1440);
        came(loom, 5, 0, -1, 1440);
        order(loom, 5, 1, 3);
        order(loom, 11, 1, 3);
        order(loom, 6, 4);
        order(loom, 10, 2, 5);
        loom.share(0, false);
        order(loom, 6, 1, 2, 3, 4, 5);
    }
}
