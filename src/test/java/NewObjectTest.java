/** Promise 1: a new object has no events, links, groups and consent, and the minute of now is 1440. */
public final class NewObjectTest {
    private static final Checks checks = new Checks();

    public static void main(String[] args) {
        checks.due("NONE", -1, () -> VisitorLoom.NONE);
        nodesStandAlone();
        nothingIsThere();
        nowIsTheSecondDay();
        objectsAreApart();
        checks.end();
    }

    private static void nodesStandAlone() {
        VisitorLoom loom = new VisitorLoom();
        for (int node = 0; node < 20; node++) {
            int each = node;
            checks.due("profile " + each, each, () -> loom.profile(each));
            checks.due("profileAnew " + each, each, () -> loom.profileAnew(each));
            checks.due("events " + each, 0, () -> loom.events(each, VisitorLoom.NONE));
            checks.due("sessions " + each, 0, () -> loom.sessions(each));
            checks.due("groups " + each, 0, () -> loom.groups(each));
            checks.due("counted " + each, 0, () -> loom.counted(each, 0, 0, 100000, 30));
            checks.wrongPlace("eventAt " + each, () -> loom.eventAt(each, 0));
            checks.wrongPlace("session " + each, () -> loom.session(each, 0, 0));
        }
    }

    private static void nothingIsThere() {
        VisitorLoom loom = new VisitorLoom();
        checks.due("time of none", -1, () -> loom.time(0));
        checks.due("toldInAll", 0, () -> loom.toldInAll());
        checks.wrongPlace("told before tell", () -> loom.told(0));
        checks.due("tell", 0, () -> loom.tell());
        checks.due("toldInAll", 0, () -> loom.toldInAll());
        checks.due("no skew", 0, () -> loom.skew(0, 5));
        checks.due("not shared", 0, () -> Checks.bit(loom.share(0, true)));
        checks.due("allowed", 1, () -> Checks.bit(loom.link(0, 0, false)));
        checks.due("first consent", 1, () -> loom.consent(0, 0, 0, true));
        checks.due("first group", 0, () -> loom.group(0, 0, 1, 1));
    }

    private static void nowIsTheSecondDay() {
        VisitorLoom loom = new VisitorLoom();
        checks.wrongArgument("consent behind now", () -> loom.consent(0, 0, 1441, true));
        checks.due("consent at now", 1, () -> loom.consent(0, 0, 1440, true));
        checks.due("pass", 1441, () -> loom.pass(1));
    }

    private static void objectsAreApart() {
        VisitorLoom one = new VisitorLoom();
        VisitorLoom other = new VisitorLoom();
        one.event(1, 0, 0, 0, -1, 1440);
        one.share(5, true);
        checks.due("other's events", 0, () -> other.events(0, -1));
        checks.due("other's profile", 10, () -> other.profile(10));
        checks.due("other's share", 0, () -> Checks.bit(other.share(5, true)));
    }
}
