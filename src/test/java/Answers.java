import java.util.ArrayList;
import java.util.List;

/**
 * What an object answers to many calls, as texts. The calls go in parts of at most 250, each for an object of its own,
 * so that no object has more than its 512 calls.
 */
final class Answers {
    static final int QUESTION_PARTS = 6;
    static final int PARTS = 7;
    private static final int NODES = 20;

    private final VisitorLoom loom;
    private final List<String> texts = new ArrayList<>();

    private Answers(VisitorLoom loom) {
        this.loom = loom;
    }

    static List<String> of(VisitorLoom loom, int part) {
        Answers answers = new Answers(loom);
        switch (part) {
            case 0 -> answers.nodes();
            case 1 -> answers.places();
            case 2 -> answers.sessions();
            case 3 -> answers.times();
            case 4 -> answers.sums();
            case 5 -> answers.told();
            default -> answers.whatElseIsHeld();
        }
        return answers.texts;
    }

    private void add(String name, Checks.Call call) {
        texts.add(name + " = " + Checks.outcome(call));
    }

    private void nodes() {
        for (int n = 0; n < NODES; n++) {
            int node = n;
            add("profile " + node, () -> loom.profile(node));
            add("profileAnew " + node, () -> loom.profileAnew(node));
            add("sessions " + node, () -> loom.sessions(node));
            add("groups " + node, () -> loom.groups(node));
            for (int k = -1; k < 5; k++) {
                int kind = k;
                add("events " + node + ", " + kind, () -> loom.events(node, kind));
            }
        }
    }

    private void places() {
        for (int n = 0; n < NODES; n++) {
            int node = n;
            for (int p = 0; p < 12; p++) {
                int place = p;
                add("eventAt " + node + ", " + place, () -> loom.eventAt(node, place));
            }
        }
    }

    private void sessions() {
        for (int n = 0; n < NODES; n++) {
            int node = n;
            for (int s = 0; s < 12; s++) {
                int session = s / 4;
                int what = s % 4;
                add("session " + node + ", " + session + ", " + what, () -> loom.session(node, session, what));
            }
        }
    }

    private void times() {
        for (int n = 0; n < 250; n++) {
            int number = n;
            add("time " + number, () -> loom.time(number));
        }
    }

    private void sums() {
        for (int n = 0; n < NODES; n++) {
            int node = n;
            for (int s = 0; s < 12; s++) {
                int purpose = s / 3;
                int kind = s % 3;
                add("counted " + node + ", " + purpose + ", " + kind,
                        () -> loom.counted(node, purpose, kind, 30 * 1440, 30));
            }
        }
    }

    private void told() {
        for (int p = 0; p < 160; p++) {
            int place = p;
            add("told " + place, () -> loom.told(place));
        }
        add("toldInAll", () -> loom.toldInAll());
    }

    private void whatElseIsHeld() {
        add("tell", () -> loom.tell());
        add("toldInAll", () -> loom.toldInAll());
        for (int d = 0; d < 10; d++) {
            int device = d;
            add("skew " + device, () -> loom.skew(device, 0));
            add("share " + device, () -> Checks.bit(loom.share(device, false)));
            for (int a = 0; a < 10; a++) {
                int account = a;
                add("link " + device + ", " + account, () -> Checks.bit(loom.link(device, account, true)));
            }
        }
        for (int n = 0; n < NODES * 4; n++) {
            int node = n / 4;
            int purpose = n % 4;
            add("consent " + node + ", " + purpose, () -> loom.consent(node, purpose, 1440, true));
        }
        for (int n = 0; n < 20; n++) {
            int number = n * 50;
            add("event " + number, () -> Checks.bit(loom.event(number, 0, -1, 0, -1, 1440)));
        }
        add("group", () -> loom.group(0, 0, 1, 1));
        add("pass", () -> loom.pass(1));
        add("tell", () -> loom.tell());
        add("toldInAll", () -> loom.toldInAll());
    }
}
