import java.io.IOException;

/** Promises 10 to 21, sentence by sentence: the range of each argument, the answer, and each exception. */
public final class QuestionRangesTest {
    private static final String PROFILE = "Promise 10: profile";
    private static final String ANEW = "Promise 11: profileAnew";
    private static final String EVENTS = "Promise 12: events";
    private static final String EVENT_AT = "Promise 13: eventAt";
    private static final String TIME = "Promise 14: time";
    private static final String SESSIONS = "Promise 15: sessions";
    private static final String SESSION = "Promise 16: session";
    private static final String COUNTED = "Promise 17: counted";
    private static final String GROUPS = "Promise 18: groups";
    private static final String TELL = "Promise 19: tell";
    private static final String TOLD = "Promise 20: told";
    private static final String IN_ALL = "Promise 21: toldInAll";
    private static final String ARGUMENT = "Throws `IllegalArgumentException`";
    private static final String INDEX = "Throws `IndexOutOfBoundsException`";
    private static final String NODE = "`node`: 0 to 19";
    private static final Checks checks = new Checks();

    public static void main(String[] args) throws IOException {
        Sentences all = new Sentences(checks, PROFILE, ANEW, EVENTS, EVENT_AT, TIME, SESSIONS, SESSION, COUNTED, GROUPS,
                TELL, TOLD, IN_ALL);
        Ranges ranges = new Ranges(checks, all);
        profile(all, ranges);
        events(all, ranges);
        eventAt(all, ranges);
        all.test(TIME, "`number`: its number", QuestionRangesTest::timeOfEachNumber);
        all.test(TIME, "Returns the time; NONE if there is no such event", QuestionRangesTest::timeReturns);
        sessions(all, ranges);
        session(all, ranges);
        counted(all, ranges);
        groups(all, ranges);
        all.test(TELL, "Tells all changes of groups; returns how many there are", QuestionRangesTest::tell);
        all.test(TOLD, "`place`: 0 for the first one", QuestionRangesTest::toldPlaces);
        all.test(TOLD, "Returns 100 times the group, and the node, together", QuestionRangesTest::toldReturns);
        all.test(TOLD, "and 1000 more, if it left", QuestionRangesTest::toldThatItLeft);
        all.test(TOLD, "told by the latest tell()", QuestionRangesTest::toldByTheLatest);
        all.test(TOLD, INDEX + " if there is no such place", QuestionRangesTest::toldNoSuchPlace);
        all.test(IN_ALL, "Returns how many changes were told in all", QuestionRangesTest::toldInAll);
        all.allHaveTests();
        checks.end();
    }

    /** One event of the node, of kind 2, that counts for purpose 0 and group 0; and one of device 5 and one of 6. */
    private static void oneEventOf(VisitorLoom loom, int node) {
        loom.group(0, 2, 1, 1);
        if (node >= 0 && node < 20) {
            loom.consent(node, 0, 0, true);
            loom.event(77, node % 10, node < 10 ? node : -1, 2, 3, 1440);
        }
        loom.event(78, 5, -1, 4, 8, 100);
        loom.event(79, 6, -1, 4, 8, 100);
    }

    private static void noNode(Sentences all, String heading, Ranges.CallWith call) {
        all.test(heading, ARGUMENT, () -> {
            for (int bad : Ranges.beyond(0, 19)) {
                VisitorLoom loom = Scenes.at(1);
                checks.wrongArgument("node " + bad, () -> call.answer(loom, bad));
            }
        });
    }

    private static void profile(Sentences all, Ranges ranges) {
        ranges.test(PROFILE, NODE, 0, 19, node -> node, (loom, node) -> loom.profile(node));
        ranges.test(ANEW, NODE, 0, 19, node -> node, (loom, node) -> loom.profileAnew(node));
        noNode(all, PROFILE, (loom, node) -> loom.profile(node));
        noNode(all, ANEW, (loom, node) -> loom.profileAnew(node));
        all.test(PROFILE, "Returns its lowest node", () -> {
            VisitorLoom loom = new VisitorLoom();
            loom.event(1, 0, 9, 0, -1, 1440);
            checks.due("the account", 9, () -> loom.profile(10));
            loom.event(2, 9, 0, 0, -1, 1440);
            checks.due("the account", 0, () -> loom.profile(19));
            loom.event(3, 9, 9, 0, -1, 1440);
            for (int node : new int[] {0, 9, 10, 19}) {
                checks.due("all four", 0, () -> loom.profile(node));
            }
        });
        all.test(ANEW, "Returns its lowest node", () -> {
            VisitorLoom loom = Scenes.at(1);
            for (int n = 0; n < 20; n++) {
                int node = n;
                long want = loom.profile(node);
                checks.due("the same", want, () -> loom.profileAnew(node));
                checks.due("the same still", want, () -> loom.profile(node));
            }
        });
    }

    private static void events(Sentences all, Ranges ranges) {
        ranges.test(EVENTS, NODE, 0, 19, node -> 1, (loom, node) -> {
            oneEventOf(loom, node);
            return loom.events(node, 2);
        });
        ranges.test(EVENTS, "`kind`: 0 to 4, or NONE for all", -1, 4, it -> it < 0 ? 15 : it + 1, (loom, kind) -> {
            for (int number = 0; number < 15; number++) {
                int each = number < 1 ? 0 : number < 3 ? 1 : number < 6 ? 2 : number < 10 ? 3 : 4;
                loom.event(number, 0, -1, each, -1, 1440);
            }
            return loom.events(10, kind);
        });
        all.test(EVENTS, "Returns the events", () -> {
            VisitorLoom loom = new VisitorLoom();
            checks.due("none", 0, () -> loom.events(10, -1));
            for (int number = 0; number < 200; number++) {
                loom.event(number, 0, -1, number % 5, -1, number * 500);
            }
            checks.due("all", 200, () -> loom.events(10, -1));
            checks.due("of a kind", 40, () -> loom.events(10, 4));
        });
        noNode(all, EVENTS, (loom, node) -> loom.events(node, -1));
        all.test(EVENTS, ARGUMENT + " if node or kind is out of its range", () -> {
            VisitorLoom loom = Scenes.at(1);
            checks.wrongArgument("both", () -> loom.events(20, 5));
            checks.wrongArgument("both", () -> loom.events(-1, -2));
            checks.wrongArgument("NONE is no node", () -> loom.events(VisitorLoom.NONE, VisitorLoom.NONE));
        });
    }

    private static void eventAt(Sentences all, Ranges ranges) {
        ranges.test(EVENT_AT, NODE, 0, 19, node -> 77, (loom, node) -> {
            oneEventOf(loom, node);
            int place = node == 15 || node == 16 ? 1 : 0;
            return loom.eventAt(node, place);
        });
        all.test(EVENT_AT, "`place`: 0 for the first one", () -> {
            VisitorLoom loom = new VisitorLoom();
            for (int number = 0; number < 200; number++) {
                loom.event(number, number % 2, -1, 0, -1, 5000 - number);
            }
            for (int p = 0; p < 100; p++) {
                int place = p;
                checks.due("place " + place, 198 - 2 * place, () -> loom.eventAt(10, place));
                checks.due("place " + place, 199 - 2 * place, () -> loom.eventAt(11, place));
            }
        });
        all.test(EVENT_AT, "Returns its number", () -> {
            VisitorLoom loom = new VisitorLoom();
            int[] numbers = {0, 999, 500};
            for (int number : numbers) {
                loom.event(number, 0, -1, 0, -1, 1440);
            }
            for (int p = 0; p < numbers.length; p++) {
                int place = p;
                checks.due("place " + place, numbers[place], () -> loom.eventAt(10, place));
            }
        });
        all.test(EVENT_AT, INDEX + " if there is no such place", QuestionRangesTest::eventAtNoSuchPlace);
        noNode(all, EVENT_AT, (loom, node) -> loom.eventAt(node, 0));
        all.test(EVENT_AT, ARGUMENT + " if node is out of its range; that goes first here", () -> {
            VisitorLoom loom = Scenes.at(1);
            for (int bad : Ranges.beyond(0, 19)) {
                checks.wrongArgument("and place -1", () -> loom.eventAt(bad, -1));
                checks.wrongArgument("and place 200", () -> loom.eventAt(bad, 200));
            }
        });
    }

    private static void eventAtNoSuchPlace() {
        VisitorLoom loom = new VisitorLoom();
        for (int bad : new int[] {-1, 0, 1, Integer.MIN_VALUE, Integer.MAX_VALUE}) {
            checks.wrongPlace("of none, " + bad, () -> loom.eventAt(0, bad));
        }
        loom.event(1, 0, 0, 0, -1, 1440);
        loom.event(2, 1, -1, 0, -1, 1440);
        loom.event(3, 0, -1, 0, -1, 1440);
        for (int bad : Ranges.beyond(0, 1)) {
            checks.wrongPlace("of two, " + bad, () -> loom.eventAt(0, bad));
            checks.wrongPlace("of two, " + bad, () -> loom.eventAt(10, bad));
        }
        checks.due("the last one", 3, () -> loom.eventAt(0, 1));
        loom.forget(0);
        checks.wrongPlace("forgotten", () -> loom.eventAt(0, 0));
        VisitorLoom full = new VisitorLoom();
        for (int number = 0; number < 200; number++) {
            full.event(number, 0, -1, 0, -1, 1440);
        }
        checks.due("the last of 200", 199, () -> full.eventAt(10, 199));
        checks.wrongPlace("behind it", () -> full.eventAt(10, 200));
    }

    private static void timeOfEachNumber() {
        VisitorLoom loom = new VisitorLoom();
        int[] numbers = {0, 1, 7, 500, 998, 999};
        for (int number : numbers) {
            loom.event(number, number % 10, number % 3 - 1, 0, -1, 1000 + number);
        }
        for (int number : numbers) {
            checks.due("time of " + number, 1000 + number, () -> loom.time(number));
        }
    }

    private static void timeReturns() {
        VisitorLoom loom = new VisitorLoom();
        checks.due("none came", -1, () -> loom.time(0));
        loom.event(0, 0, -1, 0, -1, 0);
        loom.event(999, 0, -1, 0, -1, 100000);
        checks.due("the least time", 0, () -> loom.time(0));
        checks.due("the most as told", 100000, () -> loom.time(999));
        for (int none : new int[] {1, 500, 998}) {
            checks.due("no event " + none, VisitorLoom.NONE, () -> loom.time(none));
        }
        for (int none : Ranges.beyond(0, 999)) {
            checks.due("no number " + none, VisitorLoom.NONE, () -> loom.time(none));
        }
        loom.skew(0, 50);
        checks.due("as it counts now", 0, () -> loom.time(0));
        checks.due("as it counts now", 99950, () -> loom.time(999));
        loom.forget(10);
        checks.due("forgotten", VisitorLoom.NONE, () -> loom.time(0));
        checks.due("forgotten", VisitorLoom.NONE, () -> loom.time(999));
    }

    private static void sessions(Sentences all, Ranges ranges) {
        ranges.test(SESSIONS, NODE, 0, 19, node -> node == 15 || node == 16 ? 2 : node == 5 || node == 6 ? 2 : 1,
                (loom, node) -> {
                    oneEventOf(loom, node);
                    return loom.sessions(node);
                });
        all.test(SESSIONS, "Returns the sessions", () -> {
            VisitorLoom loom = new VisitorLoom();
            checks.due("none", 0, () -> loom.sessions(10));
            for (int step = 0; step < 200; step++) {
                int want = step + 1;
                loom.event(step, 0, -1, 0, -1, 31 * step);
                checks.due("sessions", want, () -> loom.sessions(10));
            }
        });
        noNode(all, SESSIONS, (loom, node) -> loom.sessions(node));
    }

    private static void session(Sentences all, Ranges ranges) {
        ranges.test(SESSION, NODE, 0, 19, node -> 1440, (loom, node) -> {
            oneEventOf(loom, node);
            return loom.session(node, loom.sessions(node) - 1, 0);
        });
        ranges.test(SESSION, "`what`: 0 the time of its first event", 0, 3, what -> new int[] {2000, 25, 3, 6}[what],
                (loom, what) -> {
                    loom.event(1, 0, -1, 0, -1, 2025);
                    loom.event(2, 0, -1, 0, 6, 2010);
                    loom.event(3, 0, -1, 0, -1, 2000);
                    loom.event(4, 0, -1, 0, 7, 3000);
                    return loom.session(10, 0, what);
                });
        all.test(SESSION, "`session`: 0 for the first one", QuestionRangesTest::sessionPlaces);
        all.test(SESSION, "`what`: 0 the time of its first event", QuestionRangesTest::sessionOfOneEvent);
        all.test(SESSION, "Returns as told", QuestionRangesTest::sessionReturns);
        all.test(SESSION, INDEX + " if there is no such session", QuestionRangesTest::noSuchSession);
        noNode(all, SESSION, (loom, node) -> loom.session(node, 0, 0));
        all.test(SESSION, ARGUMENT + " if node or what is out of its range; that goes first here", () -> {
            VisitorLoom loom = new VisitorLoom();
            for (int bad : Ranges.beyond(0, 19)) {
                checks.wrongArgument("and no session", () -> loom.session(bad, 0, 0));
                checks.wrongArgument("and no session", () -> loom.session(bad, -1, 3));
            }
            for (int bad : Ranges.beyond(0, 3)) {
                checks.wrongArgument("and no session", () -> loom.session(0, 0, bad));
                checks.wrongArgument("and no session", () -> loom.session(0, -1, bad));
                checks.wrongArgument("and no node", () -> loom.session(20, -1, bad));
            }
        });
    }

    private static void sessionPlaces() {
        VisitorLoom loom = new VisitorLoom();
        for (int number = 0; number < 60; number++) {
            loom.event(number, number % 2, -1, 0, number % 10, 50000 - 100 * number);
        }
        for (int place = 0; place < 30; place++) {
            int session = place;
            checks.due("session " + session, 44200 + 200 * session, () -> loom.session(10, session, 0));
            checks.due("session " + session, 44100 + 200 * session, () -> loom.session(11, session, 0));
            checks.due("session " + session, (58 - 2 * session) % 10, () -> loom.session(10, session, 3));
        }
    }

    private static void sessionOfOneEvent() {
        VisitorLoom loom = new VisitorLoom();
        loom.event(1, 0, -1, 0, -1, 0);
        loom.event(2, 1, -1, 0, 0, 100000);
        int[] least = {0, 0, 1, VisitorLoom.NONE};
        int[] most = {100000, 0, 1, 0};
        for (int w = 0; w < 4; w++) {
            int what = w;
            checks.due("least, " + what, least[what], () -> loom.session(10, 0, what));
            checks.due("most, " + what, most[what], () -> loom.session(11, 0, what));
        }
    }

    private static void sessionReturns() {
        VisitorLoom loom = new VisitorLoom();
        for (int minute = 0; minute < 1440; minute += 30) {
            loom.event(minute / 30, 0, -1, 0, -1, 2880 + minute);
        }
        loom.event(100, 0, -1, 0, 9, 4319);
        int[] due = {2880, 1439, 49, 9};
        for (int w = 0; w < 4; w++) {
            int what = w;
            checks.due("the longest, " + what, due[what], () -> loom.session(10, 0, what));
        }
        VisitorLoom full = new VisitorLoom();
        for (int number = 0; number < 200; number++) {
            full.event(number, 0, -1, 0, -1, 1440);
        }
        checks.due("with most events", 200, () -> full.session(10, 0, 2));
    }

    private static void noSuchSession() {
        VisitorLoom loom = new VisitorLoom();
        for (int bad : new int[] {-1, 0, 1, Integer.MIN_VALUE, Integer.MAX_VALUE}) {
            checks.wrongPlace("of none, " + bad, () -> loom.session(0, bad, 0));
        }
        loom.event(1, 0, 0, 0, -1, 1440);
        loom.event(2, 0, 0, 0, -1, 1471);
        loom.event(3, 0, 0, 0, -1, 1472);
        loom.event(4, 1, -1, 0, -1, 1440);
        for (int bad : Ranges.beyond(0, 1)) {
            for (int w = 0; w < 4; w++) {
                int what = w;
                checks.wrongPlace("of two, " + bad, () -> loom.session(10, bad, what));
            }
        }
        checks.due("the last one", 1471, () -> loom.session(10, 1, 0));
        loom.forget(0);
        checks.wrongPlace("forgotten", () -> loom.session(10, 0, 0));
    }

    private static void counted(Sentences all, Ranges ranges) {
        ranges.test(COUNTED, NODE, 0, 19, node -> 1, (loom, node) -> {
            oneEventOf(loom, node);
            return loom.counted(node, 0, 2, 1440, 1);
        });
        ranges.test(COUNTED, "`purpose`: 0 to 3", 0, 3, purpose -> 1 + purpose, (loom, purpose) -> {
            for (int node = 0; node < 4; node++) {
                loom.event(node, node, -1, 0, -1, 1440);
                loom.event(10 + node, node, 0, 4, -1, 1440);
                for (int each = node; each < 4; each++) {
                    loom.consent(10 + node, each, 0, true);
                }
            }
            return loom.counted(0, purpose, 0, 1440, 1);
        });
        ranges.test(COUNTED, "`kind`: 0 to 4", 0, 4, kind -> kind == 0 ? 0 : 1, (loom, kind) -> {
            loom.consent(10, 0, 0, true);
            for (int each = 1; each < 5; each++) {
                loom.event(each, 0, -1, each, -1, 1440);
            }
            return loom.counted(10, 0, kind, 1440, 1);
        });
        ranges.test(COUNTED, "`minute`: 0 to 100000", 0, 100000, minute -> 1, (loom, minute) -> {
            loom.consent(10, 0, 0, true);
            loom.event(1, 0, -1, 0, -1, minute < 0 || minute > 100000 ? 1440 : minute);
            return loom.counted(10, 0, 0, minute, 1);
        });
        ranges.test(COUNTED, "`days`: 1 to 30", 1, 30, days -> 1, (loom, days) -> {
            loom.consent(10, 0, 0, true);
            loom.event(1, 0, -1, 0, -1, 1440);
            return days < 1 || days > 30 ? loom.counted(10, 0, 0, 1440, days)
                    : loom.counted(10, 0, 0, 1439 + days * 1440, days)
                    - loom.counted(10, 0, 0, 1440 + days * 1440, days);
        });
        all.test(COUNTED, "later than a minute less some days, up to that minute", QuestionRangesTest::span);
        all.test(COUNTED, "Returns the events", () -> {
            VisitorLoom loom = new VisitorLoom();
            loom.consent(10, 0, 0, true);
            checks.due("none", 0, () -> loom.counted(10, 0, 0, 1440, 1));
            for (int number = 0; number < 200; number++) {
                loom.event(number, 0, -1, 0, -1, 100000);
            }
            checks.due("all", 200, () -> loom.counted(10, 0, 0, 100000, 1));
            checks.due("none", 0, () -> loom.counted(10, 0, 0, 99999, 30));
        });
        noNode(all, COUNTED, (loom, node) -> loom.counted(node, 0, 0, 1440, 1));
        all.test(COUNTED, ARGUMENT + " if an argument is out of its range", () -> {
            VisitorLoom loom = Scenes.at(1);
            checks.wrongArgument("all", () -> loom.counted(20, 4, 5, 100001, 31));
            checks.wrongArgument("all", () -> loom.counted(-1, -1, -1, -1, 0));
            checks.wrongArgument("NONE is no kind here", () -> loom.counted(0, 0, VisitorLoom.NONE, 1440, 1));
        });
    }

    private static void span() {
        VisitorLoom loom = new VisitorLoom();
        loom.consent(10, 0, 0, true);
        int[] times = {0, 1, 1440, 2880, 2881, 4320, 50000};
        for (int number = 0; number < times.length; number++) {
            loom.event(number, 0, -1, 0, -1, times[number]);
        }
        // minute, days, and what is due
        int[][] rows = {
            {0, 1, 1}, {0, 30, 1}, {1, 1, 2}, {1439, 1, 2}, {1440, 1, 2}, {1441, 1, 1}, {1440, 2, 3}, {2879, 1, 1},
            {2880, 1, 1}, {2880, 2, 3}, {2879, 2, 3}, {2881, 2, 3}, {4320, 1, 2}, {4319, 1, 2}, {4320, 2, 3},
            {4321, 1, 1}, {43199, 30, 6}, {43200, 30, 5}, {43201, 30, 4}, {49999, 30, 0}, {50000, 30, 1},
            {93199, 30, 1}, {93200, 30, 0}, {100000, 30, 0}
        };
        for (int[] row : rows) {
            checks.due(row[1] + " days up to " + row[0], row[2], () -> loom.counted(10, 0, 0, row[0], row[1]));
        }
    }

    private static void groups(Sentences all, Ranges ranges) {
        ranges.test(GROUPS, NODE, 0, 19, node -> 1, (loom, node) -> {
            oneEventOf(loom, node);
            return loom.groups(node);
        });
        all.test(GROUPS, "Returns the set, bit k for the group k", () -> {
            for (int k = 0; k < 8; k++) {
                VisitorLoom loom = new VisitorLoom();
                for (int number = 0; number < 8; number++) {
                    loom.group(0, number == k ? 1 : 0, 1, 1);
                }
                loom.consent(10, 0, 0, true);
                checks.due("none", 0, () -> loom.groups(10));
                loom.event(1, 0, -1, 1, -1, 1440);
                checks.due("one", 1 << k, () -> loom.groups(10));
                loom.event(2, 0, -1, 0, -1, 1440);
                checks.due("all", 255, () -> loom.groups(10));
            }
        });
        noNode(all, GROUPS, (loom, node) -> loom.groups(node));
    }

    /** Ten accounts with a device each, all in eight groups: as many changes as there can be. */
    private static VisitorLoom everyNodeInEveryGroup() {
        VisitorLoom loom = new VisitorLoom();
        for (int number = 0; number < 8; number++) {
            loom.group(0, 0, 1, 1);
        }
        for (int node = 0; node < 10; node++) {
            loom.consent(node, 0, 0, true);
            loom.event(node, node, node, 0, -1, 1440);
        }
        return loom;
    }

    private static void tell() {
        VisitorLoom loom = everyNodeInEveryGroup();
        checks.due("all that can be", 160, () -> loom.tell());
        checks.due("none", 0, () -> loom.tell());
        loom.forget(3);
        checks.due("two nodes left eight groups", 16, () -> loom.tell());
        checks.due("none", 0, () -> loom.tell());
        loom.pass(1440);
        checks.due("all others left", 144, () -> loom.tell());
        checks.due("no groups", 0, () -> new VisitorLoom().tell());
    }

    private static void toldPlaces() {
        VisitorLoom loom = everyNodeInEveryGroup();
        loom.tell();
        checks.due("the first one", 0, () -> loom.told(0));
        checks.due("the second one", 1, () -> loom.told(1));
        checks.due("the last one", 719, () -> loom.told(159));
    }

    private static void toldReturns() {
        VisitorLoom loom = everyNodeInEveryGroup();
        loom.tell();
        for (int place = 0; place < 160; place++) {
            int each = place;
            checks.due("told " + place, 100 * (place / 20) + place % 20, () -> loom.told(each));
        }
    }

    private static void toldThatItLeft() {
        VisitorLoom loom = everyNodeInEveryGroup();
        loom.tell();
        loom.pass(1440);
        loom.tell();
        for (int place = 0; place < 160; place++) {
            int each = place;
            checks.due("told " + place, 1000 + 100 * (place / 20) + place % 20, () -> loom.told(each));
        }
    }

    private static void toldByTheLatest() {
        VisitorLoom loom = everyNodeInEveryGroup();
        loom.tell();
        loom.forget(9);
        checks.due("nothing new is told yet", 0, () -> loom.told(0));
        loom.tell();
        checks.due("the latest", 1009, () -> loom.told(0));
        checks.due("its last one", 1719, () -> loom.told(15));
        checks.wrongPlace("the one before is gone", () -> loom.told(16));
        loom.tell();
        checks.wrongPlace("the latest told none", () -> loom.told(0));
    }

    private static void toldNoSuchPlace() {
        VisitorLoom loom = everyNodeInEveryGroup();
        for (int bad : new int[] {-1, 0, 1, Integer.MIN_VALUE, Integer.MAX_VALUE}) {
            checks.wrongPlace("ahead of tell(), " + bad, () -> loom.told(bad));
        }
        loom.tell();
        for (int bad : Ranges.beyond(0, 159)) {
            checks.wrongPlace("of 160, " + bad, () -> loom.told(bad));
        }
        loom.forget(0);
        loom.tell();
        for (int bad : Ranges.beyond(0, 15)) {
            checks.wrongPlace("of 16, " + bad, () -> loom.told(bad));
        }
    }

    private static void toldInAll() {
        VisitorLoom loom = everyNodeInEveryGroup();
        checks.due("none yet", 0, () -> loom.toldInAll());
        loom.tell();
        checks.due("all that can be at once", 160, () -> loom.toldInAll());
        loom.tell();
        checks.due("none more", 160, () -> loom.toldInAll());
        loom.forget(0);
        checks.due("not told yet", 160, () -> loom.toldInAll());
        loom.tell();
        checks.due("and those that left", 176, () -> loom.toldInAll());
        loom.pass(1440);
        loom.tell();
        checks.due("and those that left", 320, () -> loom.toldInAll());
    }
}
