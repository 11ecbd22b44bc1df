import java.io.IOException;

/** The document's terms "Consent" and "Forgetting", sentence by sentence. */
public final class ConsentTermsTest {
    private static final String CONSENT = "Consent";
    private static final String FORGETTING = "Forgetting";
    private static final Checks checks = new Checks();

    public static void main(String[] args) throws IOException {
        Sentences sentences = new Sentences(checks, CONSENT, FORGETTING);
        sentences.test(CONSENT, "There are the purposes 0 to 3", ConsentTermsTest::purposes);
        sentences.test(CONSENT, "For each node and purpose", ConsentTermsTest::forEachNodeAndPurpose);
        sentences.test(CONSENT, "given or not, from some minutes on", ConsentTermsTest::fromMinutesOn);
        sentences.test(CONSENT, "not, at first", ConsentTermsTest::notAtFirst);
        sentences.test(CONSENT, "if at its time consent was given", ConsentTermsTest::atItsTime);
        sentences.test(CONSENT, "its account, or, without one, for its device", ConsentTermsTest::ofAccountOrDevice);
        sentences.test(CONSENT, "by all that was told up to now", ConsentTermsTest::allThatWasTold);
        sentences.test(CONSENT, "of changes for one minute the last one counts", ConsentTermsTest::lastOfOneMinute);
        sentences.test(FORGETTING, "to take away all events that belong to", ConsentTermsTest::eventsGo);
        sentences.test(FORGETTING, "belong to its profile then", ConsentTermsTest::eventsOfTheProfileThen);
        sentences.test(FORGETTING, "and all consent of the nodes of the profile", ConsentTermsTest::consentGoes);
        sentences.test(FORGETTING, "of which 20 changes can be told anew then", ConsentTermsTest::twentyAnew);
        sentences.test(FORGETTING, "skews, shares and withdrawn links stay", ConsentTermsTest::othersStay);
        sentences.test(FORGETTING, "Numbers of these events are not taken any more", ConsentTermsTest::numbersAreGone);
        sentences.test(FORGETTING, "`NONE = -1`: None", () -> checks.due("NONE", -1, () -> VisitorLoom.NONE));
        sentences.isNoPromise(FORGETTING, "the interface says: ---- questions");
        sentences.allHaveTests();
        checks.end();
    }

    private static void counts(VisitorLoom loom, int node, int purpose, int want) {
        checks.due("node " + node + ", purpose " + purpose, want, () -> loom.counted(node, purpose, 0, 43199, 30));
    }

    private static void at(VisitorLoom loom, int number, int device, int account, int time) {
        loom.event(number, device, account, 0, VisitorLoom.NONE, time);
    }

    private static void purposes() {
        VisitorLoom loom = new VisitorLoom();
        at(loom, 1, 0, -1, 1440);
        for (int purpose = 0; purpose < 4; purpose++) {
            int each = purpose;
            checks.due("told for " + purpose, 1, () -> loom.consent(10, each, 0, true));
            counts(loom, 10, purpose, 1);
            for (int other = purpose + 1; other < 4; other++) {
                counts(loom, 10, other, 0);
            }
        }
        checks.wrongArgument("purpose -1", () -> loom.consent(10, -1, 0, true));
        checks.wrongArgument("purpose 4", () -> loom.consent(10, 4, 0, true));
    }

    private static void forEachNodeAndPurpose() {
        for (int node = 0; node < 20; node++) {
            VisitorLoom loom = new VisitorLoom();
            for (int device = 0; device < 10; device++) {
                loom.share(device, true);
                at(loom, device, device, device, 1440);
                at(loom, 10 + device, device, -1, 1440);
            }
            loom.consent(node, 2, 0, true);
            for (int other = 0; other < 20; other++) {
                counts(loom, other, 2, other == node ? 1 : 0);
                counts(loom, other, 3, 0);
            }
        }
    }

    private static void fromMinutesOn() {
        VisitorLoom loom = new VisitorLoom();
        int[] times = {0, 99, 100, 199, 200, 299, 300, 5000};
        for (int number = 0; number < times.length; number++) {
            at(loom, number, 0, -1, times[number]);
        }
        loom.consent(10, 0, 100, true);
        counts(loom, 10, 0, 6);
        loom.consent(10, 0, 200, false);
        counts(loom, 10, 0, 2);
        loom.consent(10, 0, 300, true);
        counts(loom, 10, 0, 4);
        loom.consent(10, 0, 0, true);
        counts(loom, 10, 0, 6);
        loom.consent(10, 0, 1440, false);
        counts(loom, 10, 0, 5);
    }

    private static void notAtFirst() {
        VisitorLoom loom = new VisitorLoom();
        at(loom, 1, 0, 0, 0);
        at(loom, 2, 0, -1, 29000);
        for (int purpose = 0; purpose < 4; purpose++) {
            counts(loom, 0, purpose, 0);
            loom.consent(0, purpose, 1, true);
            counts(loom, 0, purpose, 0);
            loom.consent(0, purpose, 0, false);
            counts(loom, 0, purpose, 0);
        }
    }

    private static void atItsTime() {
        VisitorLoom loom = new VisitorLoom();
        at(loom, 1, 0, -1, 700);
        loom.consent(10, 0, 701, true);
        counts(loom, 10, 0, 0);
        loom.consent(10, 0, 700, true);
        counts(loom, 10, 0, 1);
        loom.consent(10, 0, 701, false);
        counts(loom, 10, 0, 1);
        loom.skew(0, -1);
        counts(loom, 10, 0, 0);
        loom.skew(0, 1);
        counts(loom, 10, 0, 0);
        loom.skew(0, 0);
        counts(loom, 10, 0, 1);
        loom.consent(10, 0, 700, false);
        counts(loom, 10, 0, 0);
    }

    private static void ofAccountOrDevice() {
        VisitorLoom loom = new VisitorLoom();
        at(loom, 1, 0, 3, 700);
        at(loom, 2, 0, 4, 700);
        at(loom, 3, 0, -1, 700);
        at(loom, 4, 0, -1, 700);
        counts(loom, 3, 0, 0);
        loom.consent(10, 0, 0, true);
        counts(loom, 3, 0, 2);
        loom.consent(3, 0, 0, true);
        counts(loom, 3, 0, 3);
        loom.consent(10, 0, 0, false);
        counts(loom, 3, 0, 1);
        loom.consent(4, 0, 0, true);
        counts(loom, 3, 0, 2);
        loom.share(0, true);
        counts(loom, 3, 0, 1);
        counts(loom, 4, 0, 1);
        counts(loom, 10, 0, 0);
    }

    private static void allThatWasTold() {
        VisitorLoom loom = new VisitorLoom();
        at(loom, 1, 0, -1, 700);
        loom.pass(1000);
        loom.consent(10, 0, 2440, false);
        loom.consent(10, 0, 500, true);
        counts(loom, 10, 0, 1);
        loom.consent(10, 0, 600, false);
        counts(loom, 10, 0, 0);
        loom.consent(10, 0, 550, true);
        counts(loom, 10, 0, 0);
        loom.consent(10, 0, 650, true);
        counts(loom, 10, 0, 1);
        for (int change = 6; change <= 20; change++) {
            loom.consent(10, 0, 700 + change, false);
        }
        counts(loom, 10, 0, 1);
    }

    private static void lastOfOneMinute() {
        VisitorLoom loom = new VisitorLoom();
        at(loom, 1, 0, -1, 700);
        for (int change = 1; change <= 20; change++) {
            loom.consent(10, 0, 700, change % 2 == 0);
            counts(loom, 10, 0, change % 2 == 0 ? 1 : 0);
        }
        VisitorLoom between = new VisitorLoom();
        at(between, 1, 0, -1, 700);
        between.consent(10, 0, 650, true);
        between.consent(10, 0, 700, true);
        between.consent(10, 0, 650, false);
        counts(between, 10, 0, 1);
        between.consent(10, 0, 699, false);
        counts(between, 10, 0, 1);
        between.consent(10, 0, 700, false);
        counts(between, 10, 0, 0);
    }

    private static void eventsGo() {
        VisitorLoom loom = new VisitorLoom();
        at(loom, 1, 0, 3, 700);
        at(loom, 2, 0, -1, 800);
        at(loom, 3, 1, 3, 900);
        at(loom, 4, 2, 4, 750);
        checks.due("of the whole profile", 3, () -> loom.forget(11));
        for (int n = 1; n <= 3; n++) {
            int number = n;
            checks.due("time of " + number, -1, () -> loom.time(number));
        }
        checks.due("no links", 10, () -> loom.profile(10));
        checks.due("none anew", 11, () -> loom.profileAnew(11));
        for (int node : new int[] {3, 10, 11}) {
            checks.due("no events of " + node, 0, () -> loom.events(node, -1));
            checks.due("no sessions of " + node, 0, () -> loom.sessions(node));
        }
        checks.due("another profile's stays", 4, () -> loom.eventAt(4, 0));
        checks.due("its link too", 4, () -> loom.profile(12));
        checks.due("twice", 0, () -> loom.forget(11));
    }

    private static void eventsOfTheProfileThen() {
        VisitorLoom loom = new VisitorLoom();
        at(loom, 1, 0, 3, 700);
        at(loom, 2, 0, 4, 700);
        at(loom, 3, 0, -1, 700);
        at(loom, 4, 1, 4, 700);
        loom.share(0, true);
        checks.due("the account's on the shared device", 1, () -> loom.forget(3));
        checks.due("the device's without account", 1, () -> loom.forget(10));
        loom.share(0, false);
        checks.due("the others are linked again", 4, () -> loom.profile(10));
        loom.link(1, 4, false);
        checks.due("without that of the withdrawn link", 1, () -> loom.forget(4));
        checks.due("which is its device's", 1, () -> loom.forget(11));
        at(loom, 5, 1, 4, 700);
        checks.due("what comes then is there", 5, () -> loom.eventAt(11, 0));
    }

    private static void consentGoes() {
        VisitorLoom loom = new VisitorLoom();
        at(loom, 1, 0, 3, 700);
        int[] nodes = {3, 10, 4, 11};
        for (int node : nodes) {
            for (int purpose = 0; purpose < 4; purpose++) {
                loom.consent(node, purpose, 0, true);
            }
        }
        loom.forget(10);
        at(loom, 2, 0, 3, 700);
        at(loom, 3, 0, -1, 700);
        at(loom, 4, 1, 4, 700);
        at(loom, 5, 1, -1, 700);
        for (int purpose = 0; purpose < 4; purpose++) {
            counts(loom, 3, purpose, 0);
            counts(loom, 4, purpose, 2);
        }
    }

    private static void twentyAnew() {
        VisitorLoom loom = new VisitorLoom();
        at(loom, 1, 0, 3, 700);
        for (int change = 1; change <= 20; change++) {
            loom.consent(3, 1, change, true);
            loom.consent(10, 1, change, true);
            loom.consent(4, 1, change, true);
        }
        loom.forget(3);
        for (int change = 1; change <= 20; change++) {
            int each = change;
            checks.due("change " + change, change, () -> loom.consent(3, 1, each, false));
            checks.due("change " + change, change, () -> loom.consent(10, 1, each, false));
        }
        checks.wrongState("one more", () -> loom.consent(3, 1, 0, true));
        checks.wrongState("one more", () -> loom.consent(10, 1, 0, true));
        checks.wrongState("another profile's", () -> loom.consent(4, 1, 0, true));
        checks.due("forgotten without events", 0, () -> loom.forget(4));
        checks.due("anew", 1, () -> loom.consent(4, 1, 0, true));
    }

    private static void othersStay() {
        VisitorLoom loom = new VisitorLoom();
        at(loom, 1, 0, 3, 700);
        loom.skew(0, -30);
        loom.link(0, 5, false);
        loom.group(0, 0, 1, 1);
        checks.due("forgotten", 1, () -> loom.forget(3));
        loom.share(0, true);
        checks.due("nothing", 0, () -> loom.forget(10));
        checks.due("the skew", -30, () -> loom.skew(0, -30));
        checks.due("the share", 1, () -> Checks.bit(loom.share(0, true)));
        checks.due("the withdrawn link", 0, () -> Checks.bit(loom.link(0, 5, false)));
        checks.due("an allowed link", 1, () -> Checks.bit(loom.link(0, 3, true)));
        at(loom, 2, 0, 5, 700);
        checks.due("the skew counts", 730, () -> loom.time(2));
        checks.due("the share counts", 2, () -> loom.eventAt(5, 0));
        loom.share(0, false);
        checks.due("the withdrawn link counts", 10, () -> loom.profile(10));
        checks.due("the groups stay", 1, () -> loom.group(0, 0, 1, 1));
    }

    private static void numbersAreGone() {
        VisitorLoom loom = new VisitorLoom();
        at(loom, 0, 0, 3, 700);
        at(loom, 999, 0, 3, 700);
        at(loom, 5, 1, -1, 700);
        loom.forget(3);
        for (int gone : new int[] {0, 999}) {
            checks.due("number " + gone, 0, () -> Checks.bit(loom.event(gone, 2, -1, 0, -1, 9)));
            checks.due("time of " + gone, -1, () -> loom.time(gone));
        }
        checks.due("nothing came", 0, () -> loom.events(12, -1));
        checks.due("one that didn't come", 1, () -> Checks.bit(loom.event(998, 2, -1, 0, -1, 9)));
    }
}
