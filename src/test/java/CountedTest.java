/** Promise 17: counted. */
public final class CountedTest {
    private static final Checks checks = new Checks();

    public static void main(String[] args) {
        wrongArguments();
        spanEdges();
        byKindAndPurpose();
        notBoundToNow();
        checks.end();
    }

    private static void wrongArguments() {
        VisitorLoom loom = new VisitorLoom();
        int[] good = {19, 3, 4, 100000, 30};
        int[] low = {-1, -1, -1, -1, 0};
        int[] high = {20, 4, 5, 100001, 31};
        checks.due("edges", 0, () -> loom.counted(19, 3, 4, 100000, 30));
        checks.due("edges", 0, () -> loom.counted(0, 0, 0, 0, 1));
        for (int i = 0; i < good.length; i++) {
            for (int bad : new int[] {low[i], high[i], Integer.MIN_VALUE, Integer.MAX_VALUE}) {
                int[] call = good.clone();
                call[i] = bad;
                checks.wrongArgument("counted" + java.util.Arrays.toString(call),
                        () -> loom.counted(call[0], call[1], call[2], call[3], call[4]));
            }
        }
    }

    private static void spanEdges() {
        VisitorLoom loom = new VisitorLoom();
        loom.consent(10, 0, 0, true);
        loom.event(1, 0, -1, 0, -1, 0);
        loom.event(2, 0, -1, 0, -1, 3000);
        checks.due("at the minute", 1, () -> loom.counted(10, 0, 0, 3000, 1));
        checks.due("ahead of it", 1, () -> loom.counted(10, 0, 0, 2999, 3));
        checks.due("just within a day", 1, () -> loom.counted(10, 0, 0, 4439, 1));
        checks.due("a day behind", 0, () -> loom.counted(10, 0, 0, 4440, 1));
        checks.due("two days", 1, () -> loom.counted(10, 0, 0, 4440, 2));
        checks.due("at minute 0", 1, () -> loom.counted(10, 0, 0, 0, 1));
        checks.due("minute 0 within", 1, () -> loom.counted(10, 0, 0, 1439, 1));
        checks.due("minute 0 no more", 0, () -> loom.counted(10, 0, 0, 1440, 1));
        checks.due("30 days", 2, () -> loom.counted(10, 0, 0, 43199, 30));
        checks.due("30 days and a minute", 1, () -> loom.counted(10, 0, 0, 43200, 30));
    }

    private static void byKindAndPurpose() {
        VisitorLoom loom = new VisitorLoom();
        loom.consent(2, 3, 0, true);
        loom.event(1, 0, 2, 4, -1, 1440);
        loom.event(2, 0, -1, 4, -1, 1440);
        checks.due("the account's alone", 1, () -> loom.counted(10, 3, 4, 1440, 1));
        checks.due("another kind", 0, () -> loom.counted(10, 3, 3, 1440, 1));
        checks.due("another purpose", 0, () -> loom.counted(10, 2, 4, 1440, 1));
        checks.due("another node", 0, () -> loom.counted(11, 3, 4, 1440, 1));
        loom.share(0, true);
        checks.due("belongs to its account", 1, () -> loom.counted(2, 3, 4, 1440, 1));
        checks.due("not to the device", 0, () -> loom.counted(10, 3, 4, 1440, 1));
    }

    private static void notBoundToNow() {
        VisitorLoom loom = new VisitorLoom();
        loom.consent(2, 0, 1440, true);
        loom.event(1, 0, 2, 0, -1, 100000);
        loom.event(2, 0, 2, 0, -1, 99999);
        checks.due("later than now", 2, () -> loom.counted(2, 0, 0, 100000, 1));
        loom.skew(0, -1);
        checks.due("behind the latest minute", 1, () -> loom.counted(2, 0, 0, 100000, 1));
    }
}
