/** Promises 15 and 16: sessions and session. */
public final class SessionsTest {
    private static final Checks checks = new Checks();

    public static void main(String[] args) {
        wrongArguments();
        cutByPauses();
        cutByMidnight();
        cutByCampaigns();
        overDevicesOfAProfile();
        manySessions();
        checks.end();
    }

    private static void session(VisitorLoom loom, int node, int session, int... told) {
        for (int what = 0; what < told.length; what++) {
            int each = what;
            checks.due("session " + session + " what " + what, told[what], () -> loom.session(node, session, each));
        }
    }

    private static void sessions(VisitorLoom loom, int node, int count) {
        checks.due("sessions of " + node, count, () -> loom.sessions(node));
        checks.wrongPlace("session behind", () -> loom.session(node, count, 0));
    }

    private static void wrongArguments() {
        VisitorLoom loom = new VisitorLoom();
        loom.event(1, 0, 0, 0, -1, 1440);
        for (int bad : new int[] {-1, 20, Integer.MIN_VALUE, Integer.MAX_VALUE}) {
            checks.wrongArgument("sessions of " + bad, () -> loom.sessions(bad));
            checks.wrongArgument("session of " + bad, () -> loom.session(bad, 0, 0));
            checks.wrongArgument("session of " + bad + ", none", () -> loom.session(bad, -1, 0));
        }
        for (int bad : new int[] {-1, 4, Integer.MIN_VALUE, Integer.MAX_VALUE}) {
            checks.wrongArgument("what " + bad, () -> loom.session(0, 0, bad));
            checks.wrongArgument("what " + bad + ", none", () -> loom.session(0, 7, bad));
        }
        for (int bad : new int[] {-1, 1, 200, Integer.MIN_VALUE, Integer.MAX_VALUE}) {
            checks.wrongPlace("session " + bad, () -> loom.session(0, bad, 0));
        }
        checks.wrongPlace("of a node without events", () -> loom.session(5, -1, 0));
        session(loom, 10, 0, 1440, 0, 1, -1);
    }

    private static void cutByPauses() {
        VisitorLoom loom = new VisitorLoom();
        loom.event(1, 0, -1, 0, -1, 2000);
        loom.event(2, 0, -1, 0, -1, 2030);
        loom.event(3, 0, -1, 0, -1, 2060);
        loom.event(4, 0, -1, 0, -1, 2091);
        sessions(loom, 10, 2);
        session(loom, 10, 0, 2000, 60, 3, -1);
        session(loom, 10, 1, 2091, 0, 1, -1);
        loom.event(5, 0, -1, 0, -1, 2061);
        sessions(loom, 10, 1);
        session(loom, 10, 0, 2000, 91, 5, -1);
    }

    private static void cutByMidnight() {
        VisitorLoom loom = new VisitorLoom();
        loom.event(1, 0, -1, 0, -1, 2878);
        loom.event(2, 0, -1, 0, -1, 2879);
        loom.event(3, 0, -1, 0, -1, 2880);
        loom.event(4, 0, -1, 0, -1, 2881);
        sessions(loom, 10, 2);
        session(loom, 10, 0, 2878, 1, 2, -1);
        session(loom, 10, 1, 2880, 1, 2, -1);
        loom.skew(0, 1);
        session(loom, 10, 0, 2877, 2, 3, -1);
        session(loom, 10, 1, 2880, 0, 1, -1);
        loom.skew(0, 2);
        sessions(loom, 10, 1);
    }

    private static void cutByCampaigns() {
        VisitorLoom loom = new VisitorLoom();
        loom.event(1, 0, -1, 0, -1, 2000);
        loom.event(2, 0, -1, 0, 4, 2001);
        loom.event(3, 0, -1, 0, -1, 2002);
        loom.event(4, 0, -1, 0, 4, 2003);
        sessions(loom, 10, 1);
        session(loom, 10, 0, 2000, 3, 4, 4);
        loom.event(5, 0, -1, 0, 0, 2004);
        loom.event(6, 0, -1, 0, -1, 2005);
        loom.event(7, 0, -1, 0, 4, 2006);
        sessions(loom, 10, 3);
        session(loom, 10, 0, 2000, 3, 4, 4);
        session(loom, 10, 1, 2004, 1, 2, 0);
        session(loom, 10, 2, 2006, 0, 1, 4);
        loom.event(8, 0, -1, 0, 9, 2100);
        loom.event(9, 0, -1, 0, -1, 2131);
        loom.event(10, 0, -1, 0, 8, 2140);
        sessions(loom, 10, 5);
        session(loom, 10, 3, 2100, 0, 1, 9);
        session(loom, 10, 4, 2131, 9, 2, 8);
    }

    private static void overDevicesOfAProfile() {
        VisitorLoom loom = new VisitorLoom();
        loom.event(1, 0, 0, 0, -1, 2000);
        loom.event(2, 1, -1, 0, 3, 2020);
        loom.event(3, 0, -1, 0, 3, 2040);
        sessions(loom, 0, 2);
        loom.event(4, 1, 0, 0, -1, 2041);
        sessions(loom, 11, 1);
        session(loom, 0, 0, 2000, 41, 4, 3);
        loom.share(1, true);
        sessions(loom, 11, 1);
        session(loom, 11, 0, 2020, 0, 1, 3);
        sessions(loom, 0, 2);
        session(loom, 0, 1, 2040, 1, 2, 3);
    }

    private static void manySessions() {
        VisitorLoom loom = new VisitorLoom();
        for (int number = 0; number < 200; number++) {
            loom.event(number, 0, -1, 0, number % 2, 5000);
        }
        sessions(loom, 10, 200);
        session(loom, 10, 199, 5000, 0, 1, 1);
        session(loom, 10, 0, 5000, 0, 1, 0);
    }
}
