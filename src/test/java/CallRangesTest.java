import java.io.IOException;

/** Promises 1 to 9, sentence by sentence: the range of each argument, the answer, and each exception. */
public final class CallRangesTest {
    private static final String NEW = "Promise 1: A new object";
    private static final String EVENT = "Promise 2: event";
    private static final String SKEW = "Promise 3: skew";
    private static final String SHARE = "Promise 4: share";
    private static final String LINK = "Promise 5: link";
    private static final String CONSENT = "Promise 6: consent";
    private static final String GROUP = "Promise 7: group";
    private static final String FORGET = "Promise 8: forget";
    private static final String PASS = "Promise 9: pass";
    private static final String ARGUMENT = "Throws `IllegalArgumentException`";
    private static final String STATE = "Throws `IllegalStateException`";
    private static final Checks checks = new Checks();

    public static void main(String[] args) throws IOException {
        Sentences all = new Sentences(checks, NEW, EVENT, SKEW, SHARE, LINK, CONSENT, GROUP, FORGET, PASS);
        Ranges ranges = new Ranges(checks, all);
        all.test(NEW, "No events, links, groups and consent", CallRangesTest::newObject);
        event(all, ranges);
        skew(all, ranges);
        share(all, ranges);
        link(all, ranges);
        consent(all, ranges);
        group(all, ranges);
        forget(all, ranges);
        pass(all, ranges);
        all.allHaveTests();
        checks.end();
    }

    private static void newObject() {
        VisitorLoom loom = new VisitorLoom();
        for (int n = 0; n < 20; n++) {
            int node = n;
            checks.due("no events", 0, () -> loom.events(node, VisitorLoom.NONE));
            checks.due("no sessions", 0, () -> loom.sessions(node));
            checks.due("no links", node, () -> loom.profile(node));
            checks.due("no links anew", node, () -> loom.profileAnew(node));
            checks.due("no groups", 0, () -> loom.groups(node));
            for (int p = 0; p < 4; p++) {
                int purpose = p;
                checks.due("no consent told", 1, () -> new VisitorLoom().consent(node, purpose, 0, true));
            }
        }
        checks.due("nothing to tell", 0, () -> loom.tell());
        checks.due("nothing told", 0, () -> loom.toldInAll());
        checks.wrongPlace("nothing told", () -> loom.told(0));
        checks.due("the first group", 0, () -> loom.group(0, 0, 1, 1));
        loom.event(1, 0, 0, 0, -1, 1440);
        checks.due("no consent", 0, () -> loom.counted(0, 0, 0, 1440, 1));
    }

    private static void event(Sentences all, Ranges ranges) {
        ranges.test(EVENT, "`number`: 0 to 999", 0, 999, number -> number, (loom, number) -> {
            loom.event(number, 0, -1, 0, -1, 1440);
            return loom.eventAt(10, 0);
        });
        ranges.test(EVENT, "`device`: 0 to 9", 0, 9, device -> 1, (loom, device) -> {
            loom.event(1, device, -1, 0, -1, 1440);
            return loom.events(10 + device, -1);
        });
        ranges.test(EVENT, "`account`: 0 to 9, or NONE", -1, 9, it -> it < 0 ? 10 : it, (loom, account) -> {
            loom.event(1, 0, account, 0, -1, 1440);
            return loom.profile(10);
        });
        ranges.test(EVENT, "`kind`: 0 to 4", 0, 4, kind -> 1, (loom, kind) -> {
            loom.event(1, 0, -1, kind, -1, 1440);
            return loom.events(10, kind);
        });
        ranges.test(EVENT, "`campaign`: 0 to 9, or NONE", -1, 9, campaign -> campaign, (loom, campaign) -> {
            loom.event(1, 0, -1, 0, campaign, 1440);
            return loom.session(10, 0, 3);
        });
        ranges.test(EVENT, "`time`: 0 to 100000", 0, 100000, time -> time, (loom, time) -> {
            loom.event(1, 0, -1, 0, -1, time);
            return loom.time(1);
        });
        all.test(EVENT, "Returns whether it is taken", CallRangesTest::eventReturns);
        all.test(EVENT, ARGUMENT + " if an argument is out of its range", CallRangesTest::eventOutOfRange);
        all.test(EVENT, STATE + " if it would be taken, and 200 were", CallRangesTest::eventWhenFull);
    }

    private static void eventReturns() {
        VisitorLoom loom = new VisitorLoom();
        checks.due("taken", 1, () -> Checks.bit(loom.event(3, 0, -1, 0, -1, 1440)));
        checks.due("not taken", 0, () -> Checks.bit(loom.event(3, 0, -1, 0, -1, 1440)));
        checks.due("another one taken", 1, () -> Checks.bit(loom.event(4, 0, -1, 0, -1, 1440)));
        loom.forget(10);
        checks.due("not taken once more", 0, () -> Checks.bit(loom.event(4, 0, -1, 0, -1, 1440)));
    }

    private static void eventOutOfRange() {
        VisitorLoom loom = new VisitorLoom();
        loom.event(7, 0, -1, 0, -1, 1440);
        checks.wrongArgument("all are", () -> Checks.bit(loom.event(1000, 10, 10, 5, 10, 100001)));
        checks.wrongArgument("all are", () -> Checks.bit(loom.event(-1, -1, -2, -1, -2, -1)));
        checks.wrongArgument("of a number that came", () -> Checks.bit(loom.event(7, 0, -1, 5, -1, 1440)));
        checks.wrongArgument("of a number that came", () -> Checks.bit(loom.event(7, 0, -1, 0, -1, 100001)));
        checks.due("none was taken", 1, () -> loom.events(10, -1));
    }

    private static void eventWhenFull() {
        VisitorLoom loom = new VisitorLoom();
        for (int number = 0; number < 199; number++) {
            loom.event(number, 0, -1, 0, -1, 1440);
        }
        checks.due("not taken ahead of the end", 0, () -> Checks.bit(loom.event(198, 0, -1, 0, -1, 1440)));
        checks.due("the last one", 1, () -> Checks.bit(loom.event(199, 0, -1, 0, -1, 1440)));
        checks.wrongState("one more", () -> Checks.bit(loom.event(200, 0, -1, 0, -1, 1440)));
        checks.wrongState("one more", () -> Checks.bit(loom.event(999, 9, 9, 4, 9, 100000)));
        checks.due("wouldn't be taken: it came", 0, () -> Checks.bit(loom.event(0, 0, -1, 0, -1, 1440)));
        loom.forget(10);
        checks.wrongState("one more", () -> Checks.bit(loom.event(200, 0, -1, 0, -1, 1440)));
        checks.due("wouldn't be taken: it was forgotten", 0, () -> Checks.bit(loom.event(0, 0, -1, 0, -1, 1440)));
    }

    private static void skew(Sentences all, Ranges ranges) {
        ranges.test(SKEW, "`device`: 0 to 9", 0, 9, device -> 1430, (loom, device) -> {
            loom.skew(device, 10);
            loom.event(1, device, -1, 0, -1, 1440);
            loom.event(2, (device + 1) % 10, -1, 0, -1, 1440);
            return loom.time(2) == 1440 ? loom.time(1) : 0;
        });
        ranges.test(SKEW, "`skew`: -600 to 600", -600, 600, skew -> 1440 - skew, (loom, skew) -> {
            loom.event(1, 0, -1, 0, -1, 1440);
            loom.skew(0, skew);
            return loom.time(1);
        });
        all.test(SKEW, "Returns the skew before", () -> {
            VisitorLoom loom = new VisitorLoom();
            int before = 0;
            for (int skew : new int[] {600, -600, 0, 1, -1, -1}) {
                checks.due("ahead of " + skew, before, () -> loom.skew(8, skew));
                before = skew;
            }
            checks.due("another device's", 0, () -> loom.skew(7, 0));
        });
        all.test(SKEW, ARGUMENT + " if device or skew is out of its range", () -> {
            VisitorLoom loom = new VisitorLoom();
            loom.skew(0, 5);
            checks.wrongArgument("both", () -> loom.skew(10, 601));
            checks.wrongArgument("device", () -> loom.skew(-1, 0));
            checks.wrongArgument("skew", () -> loom.skew(0, -601));
            checks.due("it stays", 5, () -> loom.skew(0, 0));
        });
    }

    private static void share(Sentences all, Ranges ranges) {
        ranges.test(SHARE, "`device`: 0 to 9", 0, 9, device -> 10 + device, (loom, device) -> {
            loom.share(device, true);
            loom.event(1, device, 0, 0, -1, 1440);
            loom.event(2, (device + 1) % 10, 0, 0, -1, 1440);
            return loom.profile(10 + (device + 1) % 10) == 0 ? loom.profile(10 + device) : 0;
        });
        all.test(SHARE, "`isShared`: whether it is shared from now on", () -> {
            VisitorLoom loom = new VisitorLoom();
            loom.event(1, 0, 4, 0, -1, 1440);
            for (int round = 0; round < 3; round++) {
                loom.share(0, true);
                checks.due("shared", 10, () -> loom.profile(10));
                checks.due("its account's event", 1, () -> loom.events(4, -1));
                checks.due("not its own", 0, () -> loom.events(10, -1));
                loom.share(0, false);
                checks.due("not shared", 4, () -> loom.profile(10));
            }
        });
        all.test(SHARE, "Returns whether it was", () -> {
            VisitorLoom loom = new VisitorLoom();
            checks.due("at first", 0, () -> Checks.bit(loom.share(3, false)));
            checks.due("still not", 0, () -> Checks.bit(loom.share(3, true)));
            checks.due("shared", 1, () -> Checks.bit(loom.share(3, true)));
            checks.due("still", 1, () -> Checks.bit(loom.share(3, false)));
            checks.due("no more", 0, () -> Checks.bit(loom.share(3, false)));
        });
        all.test(SHARE, ARGUMENT + " if device is out of its range", () -> {
            VisitorLoom loom = new VisitorLoom();
            for (int bad : Ranges.beyond(0, 9)) {
                checks.wrongArgument("shared " + bad, () -> Checks.bit(loom.share(bad, true)));
                checks.wrongArgument("not shared " + bad, () -> Checks.bit(loom.share(bad, false)));
            }
        });
    }

    private static void link(Sentences all, Ranges ranges) {
        ranges.test(LINK, "`device`: 0 to 9", 0, 9, device -> 10 + device, (loom, device) -> {
            loom.link(device, 3, false);
            loom.event(1, device, 3, 0, -1, 1440);
            loom.event(2, (device + 1) % 10, 3, 0, -1, 1440);
            return loom.profile(10 + (device + 1) % 10) == 3 ? loom.profile(10 + device) : 0;
        });
        ranges.test(LINK, "`account`: 0 to 9", 0, 9, account -> account, (loom, account) -> {
            loom.link(3, account, false);
            loom.event(1, 3, account, 0, -1, 1440);
            loom.event(2, 3, (account + 1) % 10, 0, -1, 1440);
            return loom.profile(13) == (account + 1) % 10 ? loom.profile(account) : -2;
        });
        all.test(LINK, "`isAllowed`: whether it is allowed from now on", () -> {
            VisitorLoom loom = new VisitorLoom();
            loom.event(1, 0, 4, 0, -1, 1440);
            for (int round = 0; round < 3; round++) {
                loom.link(0, 4, false);
                checks.due("withdrawn", 10, () -> loom.profile(10));
                loom.link(0, 4, true);
                checks.due("allowed", 4, () -> loom.profile(10));
            }
        });
        all.test(LINK, "Returns whether it was", () -> {
            VisitorLoom loom = new VisitorLoom();
            checks.due("at first", 1, () -> Checks.bit(loom.link(3, 9, true)));
            checks.due("still", 1, () -> Checks.bit(loom.link(3, 9, false)));
            checks.due("withdrawn", 0, () -> Checks.bit(loom.link(3, 9, false)));
            checks.due("still withdrawn", 0, () -> Checks.bit(loom.link(3, 9, true)));
            checks.due("allowed again", 1, () -> Checks.bit(loom.link(3, 9, true)));
        });
        all.test(LINK, ARGUMENT + " if device or account is out of its range", () -> {
            VisitorLoom loom = new VisitorLoom();
            for (int bad : Ranges.beyond(0, 9)) {
                checks.wrongArgument("both " + bad, () -> Checks.bit(loom.link(bad, bad, false)));
                checks.wrongArgument("device " + bad, () -> Checks.bit(loom.link(bad, 0, true)));
                checks.wrongArgument("account " + bad, () -> Checks.bit(loom.link(0, bad, true)));
            }
            checks.wrongArgument("NONE is no account here", () -> Checks.bit(loom.link(0, VisitorLoom.NONE, true)));
        });
    }

    private static void consent(Sentences all, Ranges ranges) {
        ranges.test(CONSENT, "`node`: 0 to 19", 0, 19, node -> 1, (loom, node) -> {
            loom.consent(node, 0, 0, true);
            loom.event(1, node % 10, node < 10 ? node : -1, 0, -1, 1440);
            return loom.counted(node, 0, 0, 1440, 1);
        });
        ranges.test(CONSENT, "`purpose`: 0 to 3", 0, 3, purpose -> 1, (loom, purpose) -> {
            loom.event(1, 0, -1, 0, -1, 1440);
            loom.consent(10, purpose, 0, true);
            return loom.counted(10, purpose, 0, 1440, 1) - loom.counted(10, (purpose + 1) % 4, 0, 1440, 1);
        });
        ranges.test(CONSENT, "`from`: 0 up to now", 0, 1440, from -> 1, (loom, from) -> {
            loom.consent(10, 0, from, true);
            loom.event(1, 0, -1, 0, -1, from);
            return loom.counted(10, 0, 0, from, 1);
        });
        all.test(CONSENT, "`from`: 0 up to now", CallRangesTest::consentUpToNow);
        all.test(CONSENT, "`isGiven`: whether it is given", () -> {
            VisitorLoom loom = new VisitorLoom();
            loom.event(1, 0, -1, 0, -1, 1440);
            for (int minute = 0; minute < 10; minute++) {
                boolean isGiven = minute % 3 == 0;
                loom.consent(10, 0, minute, isGiven);
                checks.due("at " + minute, Checks.bit(isGiven), () -> loom.counted(10, 0, 0, 1440, 1));
            }
        });
        all.test(CONSENT, "Returns how many changes were told for this node", CallRangesTest::consentReturns);
        all.test(CONSENT, ARGUMENT + " if node, purpose or from is out of its range", () -> {
            VisitorLoom loom = new VisitorLoom();
            checks.wrongArgument("all", () -> loom.consent(20, 4, 1441, true));
            checks.wrongArgument("all", () -> loom.consent(-1, -1, -1, false));
            checks.wrongArgument("NONE is no node", () -> loom.consent(VisitorLoom.NONE, 0, 0, true));
        });
        all.test(CONSENT, STATE + " if 20 changes were told for them", CallRangesTest::consentWhenFull);
    }

    private static void consentUpToNow() {
        VisitorLoom loom = new VisitorLoom();
        loom.pass(20000);
        checks.due("now", 1, () -> loom.consent(0, 0, 21440, true));
        checks.wrongArgument("later", () -> loom.consent(0, 0, 21441, true));
        loom.pass(1);
        checks.due("now", 2, () -> loom.consent(0, 0, 21441, true));
        checks.wrongArgument("later", () -> loom.consent(0, 0, 21442, true));
        VisitorLoom latest = Scenes.at(2);
        checks.due("the latest now", 1, () -> latest.consent(1, 0, 100000, true));
        checks.wrongArgument("behind it", () -> latest.consent(1, 0, 100001, true));
    }

    private static void consentReturns() {
        VisitorLoom loom = new VisitorLoom();
        checks.due("the first one", 1, () -> loom.consent(4, 1, 100, true));
        checks.due("the same again", 2, () -> loom.consent(4, 1, 100, true));
        checks.due("an earlier minute", 3, () -> loom.consent(4, 1, 0, false));
        checks.due("a later minute", 4, () -> loom.consent(4, 1, 1440, false));
        checks.due("another purpose", 1, () -> loom.consent(4, 2, 100, true));
        checks.due("another node", 1, () -> loom.consent(5, 1, 100, true));
        checks.due("its device", 1, () -> loom.consent(14, 1, 100, true));
        checks.due("between them", 5, () -> loom.consent(4, 1, 50, false));
    }

    private static void consentWhenFull() {
        VisitorLoom loom = new VisitorLoom();
        for (int change = 1; change <= 20; change++) {
            int want = change;
            checks.due("change " + change, want, () -> loom.consent(19, 3, 1440 - 7 * want, want % 2 == 0));
        }
        for (int from : new int[] {0, 1300, 1433, 1440}) {
            checks.wrongState("one more from " + from, () -> loom.consent(19, 3, from, true));
        }
        checks.due("another purpose", 1, () -> loom.consent(19, 0, 0, true));
        checks.due("another node", 1, () -> loom.consent(9, 3, 0, true));
        loom.forget(18);
        checks.wrongState("another node forgotten", () -> loom.consent(19, 3, 0, true));
        loom.forget(19);
        checks.due("anew", 1, () -> loom.consent(19, 3, 0, true));
    }

    private static void group(Sentences all, Ranges ranges) {
        ranges.test(GROUP, "`purpose`: 0 to 3", 0, 3, purpose -> 1, (loom, purpose) -> {
            loom.group(purpose, 0, 1, 1);
            loom.consent(10, purpose, 0, true);
            loom.event(1, 0, -1, 0, -1, 1440);
            return loom.groups(10);
        });
        ranges.test(GROUP, "`kind`: 0 to 4", 0, 4, kind -> 1, (loom, kind) -> {
            loom.group(0, kind, 1, 1);
            loom.consent(10, 0, 0, true);
            loom.event(1, 0, -1, kind, -1, 1440);
            return loom.groups(10);
        });
        ranges.test(GROUP, "`least`: 1 to 20", 1, 20, least -> 1, (loom, least) -> {
            loom.group(0, 0, least, 1);
            loom.consent(10, 0, 0, true);
            for (int number = 1; number < least; number++) {
                loom.event(number, 0, -1, 0, -1, 1440);
            }
            long before = loom.groups(10);
            loom.event(0, 0, -1, 0, -1, 1440);
            return loom.groups(10) - before;
        });
        ranges.test(GROUP, "`days`: 1 to 30", 1, 30, days -> 1, (loom, days) -> {
            loom.group(0, 0, 1, days);
            loom.consent(10, 0, 0, true);
            loom.event(1, 0, -1, 0, -1, 1440);
            for (int day = 1; day < days; day++) {
                loom.pass(1440);
            }
            loom.pass(1439);
            long before = loom.groups(10);
            loom.pass(1);
            return before - loom.groups(10);
        });
        all.test(GROUP, "Returns its number", () -> {
            VisitorLoom loom = new VisitorLoom();
            for (int number = 0; number < 8; number++) {
                int want = number;
                checks.due("group " + number, want, () -> loom.group(want % 4, want % 5, 1 + want, 30 - want));
            }
        });
        all.test(GROUP, ARGUMENT + " if purpose, kind, least or days is out of its range", () -> {
            VisitorLoom loom = new VisitorLoom();
            checks.wrongArgument("all", () -> loom.group(4, 5, 21, 31));
            checks.wrongArgument("all", () -> loom.group(-1, -1, 0, 0));
            checks.due("none is there", 0, () -> loom.group(0, 0, 1, 1));
        });
        all.test(GROUP, STATE + " if there are 8", () -> {
            VisitorLoom loom = new VisitorLoom();
            for (int number = 0; number < 7; number++) {
                loom.group(0, 0, 1, 1);
            }
            checks.due("the eighth", 7, () -> loom.group(0, 0, 1, 1));
            checks.wrongState("the ninth", () -> loom.group(0, 0, 1, 1));
            checks.wrongState("another ninth", () -> loom.group(3, 4, 20, 30));
        });
    }

    private static void forget(Sentences all, Ranges ranges) {
        ranges.test(FORGET, "`node`: 0 to 19", 0, 19, node -> 1, (loom, node) -> {
            loom.event(1, node % 10, node < 10 ? node : -1, 0, -1, 1440);
            loom.event(2, (node + 1) % 10, -1, 0, -1, 1440);
            return loom.forget(node) + (loom.time(1) == VisitorLoom.NONE && loom.time(2) == 1440 ? 0 : 100);
        });
        all.test(FORGET, "Returns how many events are taken away", () -> {
            VisitorLoom loom = new VisitorLoom();
            checks.due("none", 0, () -> loom.forget(10));
            for (int number = 0; number < 200; number++) {
                loom.event(number, number % 3, number < 3 ? 5 : -1, 0, -1, 100 * number);
            }
            loom.link(2, 5, false);
            checks.due("two devices'", 134, () -> loom.forget(11));
            checks.due("no more", 0, () -> loom.forget(5));
            checks.due("the third one's", 66, () -> loom.forget(12));
            checks.due("no more", 0, () -> loom.forget(12));
            VisitorLoom full = Scenes.at(2);
            for (int number = 0; number < 10; number++) {
                full.share(number, false);
            }
            int sum = 0;
            for (int node = 0; node < 20; node++) {
                sum += full.forget(node);
            }
            checks.yes("all 200", sum == 200);
        });
        all.test(FORGET, ARGUMENT + " if node is out of its range", () -> {
            for (int bad : Ranges.beyond(0, 19)) {
                VisitorLoom loom = new VisitorLoom();
                loom.event(1, 0, 0, 0, -1, 1440);
                loom.event(2, 9, 9, 0, -1, 1440);
                checks.wrongArgument("node " + bad, () -> loom.forget(bad));
                checks.due("nothing is forgotten", 1440, () -> loom.time(1));
                checks.due("nothing is forgotten", 1440, () -> loom.time(2));
            }
        });
    }

    private static void pass(Sentences all, Ranges ranges) {
        ranges.test(PASS, "`minutes`: 1 to 20000", 1, 20000, minutes -> 1440 + minutes,
                (loom, minutes) -> loom.pass(minutes));
        all.test(PASS, "Returns the minute of now", () -> {
            VisitorLoom loom = new VisitorLoom();
            checks.due("now", 1441, () -> loom.pass(1));
            checks.due("now", 21441, () -> loom.pass(20000));
            checks.due("now", 21443, () -> loom.pass(2));
            checks.wrongArgument("not passed", () -> loom.pass(0));
            checks.due("now", 21444, () -> loom.pass(1));
            checks.due("that is now", 1, () -> loom.consent(0, 0, 21444, true));
            checks.wrongArgument("that is behind now", () -> loom.consent(0, 0, 21445, true));
        });
        all.test(PASS, ARGUMENT + " if minutes is out of its range", () -> {
            VisitorLoom loom = new VisitorLoom();
            for (int bad : Ranges.beyond(1, 20000)) {
                checks.wrongArgument("minutes " + bad, () -> loom.pass(bad));
            }
            checks.due("none has passed", 1441, () -> loom.pass(1));
        });
        all.test(PASS, STATE + " if it would be above 100000", () -> {
            VisitorLoom loom = new VisitorLoom();
            for (int step = 0; step < 4; step++) {
                loom.pass(20000);
            }
            checks.wrongState("above by one", () -> loom.pass(18561));
            checks.wrongState("above by most", () -> loom.pass(20000));
            checks.due("up to it", 100000, () -> loom.pass(18560));
            checks.wrongState("above by one", () -> loom.pass(1));
            checks.wrongState("above by most", () -> loom.pass(20000));
            checks.wrongArgument("that goes first", () -> loom.pass(20001));
            checks.due("now stays", 1, () -> loom.consent(0, 0, 100000, true));
        });
    }
}
