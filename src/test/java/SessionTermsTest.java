import java.io.IOException;

/** The document's term "Sessions", part by part: each of its ways to cut, and what does not cut. */
public final class SessionTermsTest {
    private static final String SESSIONS = "Sessions";
    private static final Checks checks = new Checks();

    public static void main(String[] args) throws IOException {
        Sentences sentences = new Sentences(checks, SESSIONS);
        sentences.test(SESSIONS, "The events of a profile", SessionTermsTest::ofTheWholeProfile);
        sentences.test(SESSIONS, "in order, are cut", SessionTermsTest::inOrder);
        sentences.test(SESSIONS, "a session begins with the first event", SessionTermsTest::firstEvent);
        sentences.test(SESSIONS, "more than 30 minutes behind", SessionTermsTest::thirtyMinutes);
        sentences.test(SESSIONS, "behind that of the event ahead", SessionTermsTest::behindTheEventAhead);
        sentences.test(SESSIONS, "or on another day", SessionTermsTest::anotherDay);
        sentences.test(SESSIONS, "whose campaign is another one than that", SessionTermsTest::anotherCampaign);
        sentences.test(SESSIONS, "where it has one", SessionTermsTest::sessionWithoutCampaign);
        sentences.test(SESSIONS, "that of its first event that has one", SessionTermsTest::campaignOfTheSession);
        sentences.test(SESSIONS, "an event without one does not cut", SessionTermsTest::eventWithoutCampaign);
        sentences.test(SESSIONS, "cut into sessions", SessionTermsTest::severalCutsAtOnce);
        sentences.allHaveTests();
        checks.end();
    }

    private static void at(VisitorLoom loom, int number, int campaign, int time) {
        loom.event(number, 0, VisitorLoom.NONE, 0, campaign, time);
    }

    /** Four numbers for each session: begin, length, events, campaign. */
    private static void cut(VisitorLoom loom, int node, int... told) {
        int count = told.length / 4;
        checks.due("sessions of " + node, count, () -> loom.sessions(node));
        for (int i = 0; i < told.length; i++) {
            int session = i / 4;
            int what = i % 4;
            checks.due("session " + session + ", " + what, told[i], () -> loom.session(node, session, what));
        }
        checks.wrongPlace("behind the last", () -> loom.session(node, count, 0));
    }

    private static void ofTheWholeProfile() {
        VisitorLoom loom = new VisitorLoom();
        loom.event(1, 0, 4, 0, -1, 2000);
        loom.event(2, 1, 4, 0, 3, 2030);
        loom.event(3, 0, -1, 0, -1, 2060);
        loom.event(4, 2, -1, 0, 7, 2010);
        cut(loom, 4, 2000, 60, 3, 3);
        cut(loom, 11, 2000, 60, 3, 3);
        cut(loom, 12, 2010, 0, 1, 7);
        loom.link(1, 4, false);
        cut(loom, 4, 2000, 0, 1, -1, 2060, 0, 1, -1);
        cut(loom, 11, 2030, 0, 1, 3);
    }

    private static void inOrder() {
        VisitorLoom loom = new VisitorLoom();
        at(loom, 1, -1, 2060);
        at(loom, 2, -1, 2000);
        cut(loom, 10, 2000, 0, 1, -1, 2060, 0, 1, -1);
        at(loom, 3, -1, 2030);
        cut(loom, 10, 2000, 60, 3, -1);
        loom.event(4, 1, -1, 0, -1, 2400);
        loom.event(5, 1, -1, 0, -1, 2431);
        cut(loom, 11, 2400, 0, 1, -1, 2431, 0, 1, -1);
        loom.skew(1, 600);
        cut(loom, 11, 1800, 0, 1, -1, 1831, 0, 1, -1);
    }

    private static void firstEvent() {
        VisitorLoom loom = new VisitorLoom();
        cut(loom, 10);
        at(loom, 1, -1, 0);
        cut(loom, 10, 0, 0, 1, -1);
        loom.event(2, 1, -1, 4, 0, 100000);
        cut(loom, 11, 100000, 0, 1, 0);
        loom.forget(10);
        cut(loom, 10);
    }

    private static void thirtyMinutes() {
        for (int pause : new int[] {0, 1, 29, 30}) {
            VisitorLoom loom = new VisitorLoom();
            at(loom, 1, -1, 5000);
            at(loom, 2, -1, 5000 + pause);
            cut(loom, 10, 5000, pause, 2, -1);
        }
        for (int pause : new int[] {31, 32, 60, 700}) {
            VisitorLoom loom = new VisitorLoom();
            at(loom, 1, -1, 5000);
            at(loom, 2, -1, 5000 + pause);
            cut(loom, 10, 5000, 0, 1, -1, 5000 + pause, 0, 1, -1);
        }
    }

    private static void behindTheEventAhead() {
        VisitorLoom loom = new VisitorLoom();
        for (int step = 0; step < 10; step++) {
            at(loom, step, -1, 5000 + 30 * step);
        }
        cut(loom, 10, 5000, 270, 10, -1);
        at(loom, 10, -1, 5301);
        cut(loom, 10, 5000, 270, 10, -1, 5301, 0, 1, -1);
    }

    private static void anotherDay() {
        VisitorLoom loom = new VisitorLoom();
        at(loom, 1, 2, 2878);
        at(loom, 2, 2, 2879);
        at(loom, 3, 2, 2880);
        at(loom, 4, 2, 2909);
        cut(loom, 10, 2878, 1, 2, 2, 2880, 29, 2, 2);
        loom.skew(0, 1);
        cut(loom, 10, 2877, 2, 3, 2, 2908, 0, 1, 2);
        loom.skew(0, -1);
        cut(loom, 10, 2879, 0, 1, 2, 2880, 30, 3, 2);
        VisitorLoom days = new VisitorLoom();
        at(days, 1, -1, 100);
        at(days, 2, -1, 1540);
        cut(days, 10, 100, 0, 1, -1, 1540, 0, 1, -1);
    }

    private static void anotherCampaign() {
        VisitorLoom loom = new VisitorLoom();
        at(loom, 1, 0, 5000);
        at(loom, 2, 0, 5001);
        cut(loom, 10, 5000, 1, 2, 0);
        at(loom, 3, 9, 5001);
        cut(loom, 10, 5000, 1, 2, 0, 5001, 0, 1, 9);
        at(loom, 4, 0, 5002);
        at(loom, 5, 1, 5003);
        cut(loom, 10, 5000, 1, 2, 0, 5001, 0, 1, 9, 5002, 0, 1, 0, 5003, 0, 1, 1);
    }

    private static void sessionWithoutCampaign() {
        VisitorLoom loom = new VisitorLoom();
        at(loom, 1, -1, 5000);
        at(loom, 2, -1, 5001);
        cut(loom, 10, 5000, 1, 2, -1);
        at(loom, 3, 0, 5002);
        cut(loom, 10, 5000, 2, 3, 0);
        at(loom, 4, 1, 5040);
        cut(loom, 10, 5000, 2, 3, 0, 5040, 0, 1, 1);
        at(loom, 5, -1, 5035);
        cut(loom, 10, 5000, 2, 3, 0, 5035, 5, 2, 1);
    }

    private static void campaignOfTheSession() {
        VisitorLoom loom = new VisitorLoom();
        at(loom, 1, -1, 5000);
        at(loom, 2, 5, 5001);
        at(loom, 3, -1, 5002);
        at(loom, 4, 5, 5003);
        at(loom, 5, 4, 5004);
        cut(loom, 10, 5000, 3, 4, 5, 5004, 0, 1, 4);
        at(loom, 6, 4, 5000);
        cut(loom, 10, 5000, 0, 2, 4, 5001, 2, 3, 5, 5004, 0, 1, 4);
    }

    private static void eventWithoutCampaign() {
        VisitorLoom loom = new VisitorLoom();
        at(loom, 1, 5, 5000);
        at(loom, 2, -1, 5001);
        at(loom, 3, -1, 5002);
        at(loom, 4, 5, 5003);
        cut(loom, 10, 5000, 3, 4, 5);
        at(loom, 5, -1, 5034);
        cut(loom, 10, 5000, 3, 4, 5, 5034, 0, 1, -1);
    }

    private static void severalCutsAtOnce() {
        VisitorLoom loom = new VisitorLoom();
        at(loom, 1, 1, 1439);
        at(loom, 2, 2, 1440);
        at(loom, 3, 3, 2900);
        at(loom, 4, -1, 2900);
        cut(loom, 10, 1439, 0, 1, 1, 1440, 0, 1, 2, 2900, 0, 2, 3);
        VisitorLoom most = new VisitorLoom();
        for (int number = 0; number < 200; number++) {
            at(most, number, number % 2, 7);
        }
        checks.due("as many as events", 200, () -> most.sessions(10));
        checks.due("the last one's campaign", 1, () -> most.session(10, 199, 3));
        checks.wrongPlace("behind the last", () -> most.session(10, 200, 3));
    }
}
