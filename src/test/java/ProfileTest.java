/** Promises 10 and 11: profile and profileAnew. */
public final class ProfileTest {
    private static final Checks checks = new Checks();

    public static void main(String[] args) {
        wrongArguments();
        isNamedByItsLowest();
        longChain();
        accountsOverADevice();
        checks.end();
    }

    private static void profiles(VisitorLoom loom, int... names) {
        for (int node = 0; node < names.length; node++) {
            int each = node;
            checks.due("profile " + node, names[node], () -> loom.profile(each));
            checks.due("profileAnew " + node, names[node], () -> loom.profileAnew(each));
        }
    }

    private static void wrongArguments() {
        VisitorLoom loom = new VisitorLoom();
        for (int bad : new int[] {-1, 20, Integer.MIN_VALUE, Integer.MAX_VALUE}) {
            checks.wrongArgument("profile " + bad, () -> loom.profile(bad));
            checks.wrongArgument("profileAnew " + bad, () -> loom.profileAnew(bad));
        }
    }

    private static void isNamedByItsLowest() {
        VisitorLoom loom = new VisitorLoom();
        loom.event(1, 3, 9, 0, -1, 1440);
        checks.due("of two", 9, () -> loom.profile(13));
        loom.event(2, 3, 5, 0, -1, 1440);
        checks.due("a lower one", 5, () -> loom.profile(9));
        loom.event(3, 3, 7, 0, -1, 1440);
        checks.due("a higher one", 5, () -> loom.profile(7));
        profiles(loom, 0, 1, 2, 3, 4, 5, 6, 5, 8, 5, 10, 11, 12, 5, 14, 15, 16, 17, 18, 19);
    }

    private static void longChain() {
        VisitorLoom loom = new VisitorLoom();
        for (int step = 9; step >= 0; step--) {
            loom.event(2 * step, step, step, 0, -1, 1440);
            if (step < 9) {
                loom.event(2 * step + 1, step, step + 1, 0, -1, 1440);
            }
        }
        profiles(loom, new int[20]);
        loom.link(4, 5, false);
        profiles(loom, 0, 0, 0, 0, 0, 5, 5, 5, 5, 5, 0, 0, 0, 0, 0, 5, 5, 5, 5, 5);
        loom.share(7, true);
        profiles(loom, 0, 0, 0, 0, 0, 5, 5, 5, 8, 8, 0, 0, 0, 0, 0, 5, 5, 17, 8, 8);
        loom.forget(0);
        profiles(loom, 0, 1, 2, 3, 4, 5, 5, 5, 8, 8, 10, 11, 12, 13, 14, 5, 5, 17, 8, 8);
    }

    private static void accountsOverADevice() {
        VisitorLoom loom = new VisitorLoom();
        loom.event(1, 0, 2, 0, -1, 1440);
        loom.event(2, 1, 3, 0, -1, 1440);
        checks.due("apart", 3, () -> loom.profile(3));
        loom.event(3, 1, 2, 0, -1, 1440);
        profiles(loom, 0, 1, 2, 2, 4, 5, 6, 7, 8, 9, 2, 2, 12);
        loom.event(4, 5, -1, 0, -1, 1440);
        checks.due("none without account", 15, () -> loom.profile(15));
    }
}
