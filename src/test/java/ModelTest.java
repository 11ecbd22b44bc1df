import java.util.Arrays;

/** Long runs of calls, drawn by fixed numbers, on the program and on the model; every answer must be the same. */
public final class ModelTest {
    private static final Checks checks = new Checks();
    private static final int RUNS = 240;
    // What an object answers later is free.
    private static final int CALLS = 512;
    private static final String[] NAMES = {
        "event", "skew", "share", "link", "consent", "group", "forget", "pass", "profile", "profileAnew", "events",
        "eventAt", "time", "sessions", "session", "counted", "groups", "tell", "told", "toldInAll"
    };
    // How often each call is drawn, per kind of run: mixed, many events, many groups and consents.
    private static final int[][] WEIGHTS = {
        {30, 5, 4, 4, 12, 3, 1, 4, 4, 4, 5, 6, 3, 4, 8, 8, 5, 5, 5, 1},
        {90, 6, 4, 5, 4, 2, 0, 2, 3, 3, 5, 8, 3, 4, 12, 4, 3, 3, 3, 1},
        {30, 3, 3, 3, 40, 6, 1, 5, 1, 1, 1, 1, 1, 1, 1, 15, 8, 15, 20, 1}
    };

    private static long seed;

    public static void main(String[] args) {
        for (int run = 0; run < RUNS && checks.wrong() < 5; run++) {
            seed = 77L + run * 1000003L;
            play(run);
        }
        checks.end();
    }

    private static int draw(int bound) {
        seed = seed * 6364136223846793005L + 1442695040888963407L;
        return (int) ((seed >>> 33) % bound);
    }

    private static int between(int least, int most) {
        return least + draw(most - least + 1);
    }

    /** Mostly within, at times just out of the range or far out of it. */
    private static int within(int least, int most) {
        int luck = draw(300);
        if (luck == 0) {
            return least - 1;
        }
        if (luck == 1) {
            return most + 1;
        }
        if (luck == 2) {
            return draw(2) == 0 ? Integer.MIN_VALUE : Integer.MAX_VALUE;
        }
        return luck < 12 ? least : luck < 22 ? most : between(least, most);
    }

    private static int some(int chance, int less, int least, int most) {
        return draw(100) < chance ? less : within(least, most);
    }

    private static int minute(int spread) {
        return draw(40) == 0 ? within(0, 100000) : 1440 + draw(spread) - draw(Math.min(1440, spread));
    }

    private static void play(int run) {
        VisitorLoom loom = new VisitorLoom();
        PlainLoom plain = new PlainLoom();
        int[] weights = WEIGHTS[run % WEIGHTS.length];
        int sum = Arrays.stream(weights).sum();
        int nodes = run % 2 == 0 ? 9 : 3;
        int spread = run % 5 == 0 ? 200 : run % 5 < 3 ? 4000 : 40000;
        boolean asksAtEnd = run % 4 == 3;
        int calls = asksAtEnd ? CALLS / 2 : CALLS;
        for (int call = 0; call < calls; call++) {
            int left = draw(sum);
            int chosen = 0;
            while (left >= weights[chosen]) {
                left -= weights[chosen];
                chosen++;
            }
            int[] a = arguments(NAMES[chosen], nodes, spread);
            String name = NAMES[chosen];
            String want = Checks.outcome(() -> ofPlain(plain, name, a));
            String got = Checks.outcome(() -> ofLoom(loom, name, a));
            checks.due("run " + run + ", call " + call + ": " + name + Arrays.toString(a), want, got);
        }
        if (asksAtEnd) {
            askAtEnd(run, loom, plain);
        }
    }

    private static int node(int nodes) {
        return draw(2) == 0 ? within(0, nodes) : draw(60) == 0 ? within(0, 19) : 10 + draw(nodes + 1);
    }

    private static int[] arguments(String name, int nodes, int spread) {
        int most = nodes;
        switch (name) {
            case "event":
                return new int[] {draw(3) == 0 ? within(0, 999) : draw(300), within(0, most), some(60, -1, 0, most),
                    some(60, 0, 0, 4), some(60, -1, 0, 9), minute(spread)};
            case "skew":
                return new int[] {within(0, most), draw(2) == 0 ? within(-600, 600) : draw(90) - 45};
            case "share":
                return new int[] {within(0, most), draw(2)};
            case "link":
                return new int[] {within(0, most), within(0, most), draw(2)};
            case "consent":
                return new int[] {node(nodes), some(60, 0, 0, 3), draw(3) == 0 ? draw(1441) : minute(spread), draw(3)};
            case "group":
                return new int[] {some(60, 0, 0, 3), some(60, 0, 0, 4), some(70, 1, 1, 20), within(1, 30)};
            case "pass":
                return new int[] {draw(10) == 0 ? within(1, 20000) : 1 + draw(800)};
            case "events":
                return new int[] {node(nodes), some(30, -1, 0, 4)};
            case "eventAt":
                return new int[] {node(nodes), draw(30) - 1};
            case "time":
                return new int[] {draw(20) == 0 ? within(0, 999) : draw(300)};
            case "session":
                return new int[] {node(nodes), draw(9) - 1, within(0, 3)};
            case "counted":
                return new int[] {node(nodes), some(60, 0, 0, 3), some(60, 0, 0, 4), minute(spread), within(1, 30)};
            case "told":
                return new int[] {draw(30) - 1};
            case "tell":
            case "toldInAll":
                return new int[0];
            default:
                return new int[] {node(nodes)};
        }
    }

    /** At most 250 calls, of one sort by run. */
    private static void askAtEnd(int run, VisitorLoom loom, PlainLoom plain) {
        int sort = run / 4 % 4;
        for (int node = 0; node < 20 && sort < 3; node++) {
            for (int place = 0; place < 12 && sort == 0; place++) {
                same(run, loom, plain, "eventAt", node, place);
            }
            for (int place = 0; place < 12 && sort == 1; place++) {
                same(run, loom, plain, "session", node, place / 4, place % 4);
            }
            for (int purpose = 0; purpose < 4 && sort == 2; purpose++) {
                same(run, loom, plain, "counted", node, purpose, 0, 30 * 1440, 30);
            }
            for (String name : new String[] {"profileAnew", "profile", "groups", "sessions"}) {
                if (sort == 2) {
                    same(run, loom, plain, name, node);
                }
            }
        }
        if (sort == 3) {
            same(run, loom, plain, "tell");
            for (int place = 0; place <= 160; place++) {
                same(run, loom, plain, "told", place);
            }
        }
    }

    private static void same(int run, VisitorLoom loom, PlainLoom plain, String name, int... a) {
        checks.due("run " + run + ", at its end: " + name + Arrays.toString(a),
                Checks.outcome(() -> ofPlain(plain, name, a)), Checks.outcome(() -> ofLoom(loom, name, a)));
    }

    private static long ofLoom(VisitorLoom x, String name, int[] a) {
        return switch (name) {
            case "event" -> Checks.bit(x.event(a[0], a[1], a[2], a[3], a[4], a[5]));
            case "skew" -> x.skew(a[0], a[1]);
            case "share" -> Checks.bit(x.share(a[0], a[1] > 0));
            case "link" -> Checks.bit(x.link(a[0], a[1], a[2] > 0));
            case "consent" -> x.consent(a[0], a[1], a[2], a[3] > 0);
            case "group" -> x.group(a[0], a[1], a[2], a[3]);
            case "forget" -> x.forget(a[0]);
            case "pass" -> x.pass(a[0]);
            case "profile" -> x.profile(a[0]);
            case "profileAnew" -> x.profileAnew(a[0]);
            case "events" -> x.events(a[0], a[1]);
            case "eventAt" -> x.eventAt(a[0], a[1]);
            case "time" -> x.time(a[0]);
            case "sessions" -> x.sessions(a[0]);
            case "session" -> x.session(a[0], a[1], a[2]);
            case "counted" -> x.counted(a[0], a[1], a[2], a[3], a[4]);
            case "groups" -> x.groups(a[0]);
            case "tell" -> x.tell();
            case "told" -> x.told(a[0]);
            default -> x.toldInAll();
        };
    }

    private static long ofPlain(PlainLoom x, String name, int[] a) {
        return switch (name) {
            case "event" -> x.event(a[0], a[1], a[2], a[3], a[4], a[5]);
            case "skew" -> x.skew(a[0], a[1]);
            case "share" -> x.share(a[0], a[1] > 0);
            case "link" -> x.link(a[0], a[1], a[2] > 0);
            case "consent" -> x.consent(a[0], a[1], a[2], a[3] > 0);
            case "group" -> x.group(a[0], a[1], a[2], a[3]);
            case "forget" -> x.forget(a[0]);
            case "pass" -> x.pass(a[0]);
            case "profile", "profileAnew" -> x.profile(a[0]);
            case "events" -> x.events(a[0], a[1]);
            case "eventAt" -> x.eventAt(a[0], a[1]);
            case "time" -> x.time(a[0]);
            case "sessions" -> x.sessions(a[0]);
            case "session" -> x.session(a[0], a[1], a[2]);
            case "counted" -> x.counted(a[0], a[1], a[2], a[3], a[4]);
            case "groups" -> x.groups(a[0]);
            case "tell" -> x.tell();
            case "told" -> x.told(a[0]);
            default -> x.toldInAll();
        };
    }
}
