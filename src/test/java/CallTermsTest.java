import java.io.IOException;
import java.util.ArrayList;
import java.util.List;

/** What the document says of all calls: 512 of them, which exception goes first, and that these change nothing. */
public final class CallTermsTest {
    private interface OnLoom {
        long answer(VisitorLoom loom, int[] a);
    }

    private record Refused(String name, OnLoom call, int[] a) {
    }

    private static final String TERMS = "Terms";
    private static final Checks checks = new Checks();

    public static void main(String[] args) throws IOException {
        Sentences sentences = new Sentences(checks, "What it is", TERMS);
        sentences.isNoPromise("What it is", "Builds profiles of visitors");
        sentences.test("What it is", "at most 512 calls", CallTermsTest::all512CallsAnswer);
        sentences.isNoPromise(TERMS, "The calls bring events, links");
        sentences.test(TERMS, "as if all events had come in order under the links of now", CallTermsTest::orderOfCalls);
        sentences.test(TERMS, "the one that its comment lists first is thrown", CallTermsTest::firstListedGoesFirst);
        sentences.test(TERMS, "A call that throws an exception", CallTermsTest::wrongArgumentsChangeNothing);
        sentences.test(TERMS, "changes nothing", CallTermsTest::wrongPlacesChangeNothing);
        sentences.test(TERMS, "changes nothing", CallTermsTest::fullStatesChangeNothing);
        sentences.allHaveTests();
        checks.end();
    }

    private static void all512CallsAnswer() {
        VisitorLoom loom = new VisitorLoom();
        for (int group = 0; group < 8; group++) {
            int each = group;
            checks.due("a group", group, () -> loom.group(0, 0, 1 + each % 2, 30));
        }
        checks.due("a consent", 1, () -> loom.consent(0, 0, 0, true));
        for (int number = 0; number < 200; number++) {
            int each = number;
            checks.due("an event", 1, () -> Checks.bit(loom.event(each, each % 10, 0, 0, each % 2, 100 + each)));
        }
        for (int call = 209; call < 512; call += 3) {
            checks.due("calls " + call, 200, () -> loom.counted(19, 0, 0, 1440, 1));
            checks.due("calls " + call, call == 209 ? 88 : 0, () -> loom.tell());
            checks.due("calls " + call, 200, () -> loom.sessions(10));
        }
    }

    private static void orderOfCalls() {
        for (int part = 0; part < Answers.QUESTION_PARTS; part++) {
            VisitorLoom inOrder = new VisitorLoom();
            linksSharesAndSkews(inOrder);
            consents(inOrder);
            for (int step = 0; step < 60; step++) {
                comesAt(inOrder, step);
            }
            VisitorLoom late = new VisitorLoom();
            for (int step = 0; step < 60; step++) {
                comesAt(late, step * 37 % 60);
                comesAt(late, step * 37 % 60);
            }
            consents(late);
            late.share(5, true);
            late.link(0, 0, false);
            late.skew(1, -300);
            late.share(5, false);
            late.link(0, 0, true);
            linksSharesAndSkews(late);
            checks.due("part " + part, Answers.of(inOrder, part).toString(), Answers.of(late, part).toString());
        }
    }

    private static void linksSharesAndSkews(VisitorLoom loom) {
        loom.share(2, true);
        loom.link(4, 1, false);
        loom.skew(1, 30);
        loom.skew(6, -600);
    }

    private static void consents(VisitorLoom loom) {
        for (int node = 0; node < 20; node++) {
            loom.consent(node, 0, 50 * node, true);
        }
    }

    private static void comesAt(VisitorLoom loom, int step) {
        loom.event(step, step % 7, step % 5 - 1, step % 3, step % 4 - 1, 601 + 13 * step);
    }

    private static void firstListedGoesFirst() {
        VisitorLoom loom = Scenes.at(2);
        checks.wrongArgument("event", () -> Checks.bit(loom.event(200, 0, -1, 0, -1, 100001)));
        checks.wrongArgument("event", () -> Checks.bit(loom.event(1000, 0, -1, 0, -1, 0)));
        checks.wrongState("event", () -> Checks.bit(loom.event(200, 0, -1, 0, -1, 0)));
        checks.wrongArgument("consent", () -> loom.consent(0, 0, 100001, true));
        checks.wrongArgument("consent", () -> loom.consent(0, 0, -1, true));
        checks.wrongState("consent", () -> loom.consent(0, 0, 0, true));
        checks.wrongArgument("group", () -> loom.group(0, 0, 1, 31));
        checks.wrongArgument("group", () -> loom.group(4, 0, 1, 1));
        checks.wrongState("group", () -> loom.group(0, 0, 1, 1));
        checks.wrongArgument("pass", () -> loom.pass(20001));
        checks.wrongArgument("pass", () -> loom.pass(Integer.MAX_VALUE));
        checks.wrongState("pass", () -> loom.pass(1));
        checks.wrongArgument("a number that came, too", () -> Checks.bit(loom.event(0, 10, -1, 0, -1, 0)));
    }

    private static void wrongArgumentsChangeNothing() {
        for (int scene = 0; scene < Scenes.SCENES; scene++) {
            List<Refused> refused = wrongArguments(Scenes.nowOf(scene));
            for (Refused each : refused) {
                checks.due(each.name, "throws.IllegalArgumentException", outcome(each, Scenes.at(scene)));
            }
            changeNothing(scene, refused);
        }
    }

    private static void wrongPlacesChangeNothing() {
        List<Refused> refused = new ArrayList<>();
        for (int bad : new int[] {-1, 200, Integer.MIN_VALUE, Integer.MAX_VALUE}) {
            refused.add(new Refused("eventAt", (x, a) -> x.eventAt(a[0], a[1]), new int[] {10, bad}));
            refused.add(new Refused("session", (x, a) -> x.session(a[0], a[1], a[2]), new int[] {10, bad, 3}));
            refused.add(new Refused("told", (x, a) -> x.told(a[0]), new int[] {bad}));
        }
        for (int scene = 0; scene < Scenes.SCENES; scene++) {
            for (Refused each : refused) {
                checks.due(each.name, "throws.IndexOutOfBoundsException", outcome(each, Scenes.at(scene)));
            }
            changeNothing(scene, refused);
        }
    }

    private static void fullStatesChangeNothing() {
        List<Refused> refused = new ArrayList<>();
        refused.add(new Refused("event", (x, a) -> Checks.bit(x.event(a[0], a[1], a[2], a[3], a[4], a[5])),
                new int[] {200, 0, 7, 0, 4, 99500}));
        refused.add(new Refused("consent", (x, a) -> x.consent(a[0], a[1], a[2], true), new int[] {0, 0, 0}));
        refused.add(new Refused("group", (x, a) -> x.group(a[0], a[1], a[2], a[3]), new int[] {0, 1, 1, 30}));
        refused.add(new Refused("pass", (x, a) -> x.pass(a[0]), new int[] {1}));
        for (Refused each : refused) {
            checks.due(each.name, "throws.IllegalStateException", outcome(each, Scenes.at(2)));
        }
        changeNothing(2, refused);
    }

    private static void changeNothing(int scene, List<Refused> refused) {
        for (int part = 0; part < Answers.PARTS; part++) {
            String want = Answers.of(Scenes.at(scene), part).toString();
            for (Refused each : refused) {
                VisitorLoom loom = Scenes.at(scene);
                outcome(each, loom);
                checks.due("scene " + scene + ", part " + part + ", behind " + each.name, want,
                        Answers.of(loom, part).toString());
            }
        }
    }

    private static String outcome(Refused refused, VisitorLoom loom) {
        return Checks.outcome(() -> refused.call.answer(loom, refused.a));
    }

    private static List<Refused> wrongArguments(int now) {
        List<Refused> all = new ArrayList<>();
        each(all, "event", new int[] {0, 0, -1, 0, -1, 0}, new int[] {999, 9, 9, 4, 9, 100000},
                (x, a) -> Checks.bit(x.event(a[0], a[1], a[2], a[3], a[4], a[5])));
        each(all, "skew", new int[] {0, -600}, new int[] {9, 600}, (x, a) -> x.skew(a[0], a[1]));
        each(all, "share", new int[] {0}, new int[] {9}, (x, a) -> Checks.bit(x.share(a[0], true)));
        each(all, "link", new int[] {0, 0}, new int[] {9, 9}, (x, a) -> Checks.bit(x.link(a[0], a[1], false)));
        each(all, "consent", new int[] {0, 0, 0}, new int[] {19, 3, now}, (x, a) -> x.consent(a[0], a[1], a[2], true));
        each(all, "group", new int[] {0, 0, 1, 1}, new int[] {3, 4, 20, 30}, (x, a) -> x.group(a[0], a[1], a[2], a[3]));
        each(all, "forget", new int[] {0}, new int[] {19}, (x, a) -> x.forget(a[0]));
        each(all, "pass", new int[] {1}, new int[] {20000}, (x, a) -> x.pass(a[0]));
        each(all, "profile", new int[] {0}, new int[] {19}, (x, a) -> x.profile(a[0]));
        each(all, "profileAnew", new int[] {0}, new int[] {19}, (x, a) -> x.profileAnew(a[0]));
        each(all, "events", new int[] {0, -1}, new int[] {19, 4}, (x, a) -> x.events(a[0], a[1]));
        each(all, "eventAt", new int[] {0}, new int[] {19}, (x, a) -> x.eventAt(a[0], 0));
        each(all, "sessions", new int[] {0}, new int[] {19}, (x, a) -> x.sessions(a[0]));
        each(all, "session", new int[] {0, 0}, new int[] {19, 3}, (x, a) -> x.session(a[0], 0, a[1]));
        each(all, "counted", new int[] {0, 0, 0, 0, 1}, new int[] {19, 3, 4, 100000, 30},
                (x, a) -> x.counted(a[0], a[1], a[2], a[3], a[4]));
        each(all, "groups", new int[] {0}, new int[] {19}, (x, a) -> x.groups(a[0]));
        return all;
    }

    /** One call for each argument and each side of its range, the others being in the middle of theirs. */
    private static void each(List<Refused> all, String name, int[] least, int[] most, OnLoom call) {
        for (int i = 0; i < least.length; i++) {
            for (int bad : new int[] {least[i] - 1, most[i] + 1}) {
                int[] a = new int[least.length];
                for (int other = 0; other < a.length; other++) {
                    a[other] = other == i ? bad : (least[other] + most[other]) / 2;
                }
                all.add(new Refused(name + java.util.Arrays.toString(a), call, a));
            }
        }
    }
}
