/** Promise 5: link. */
public final class LinkTest {
    private static final Checks checks = new Checks();

    public static void main(String[] args) {
        answersWhetherItWas();
        wrongArguments();
        countsForEventsThatCame();
        countsForEventsThatCome();
        staysBehindForgetting();
        checks.end();
    }

    private static void answersWhetherItWas() {
        VisitorLoom loom = new VisitorLoom();
        for (int device = 0; device < 10; device++) {
            for (int account = 0; account < 10; account++) {
                int d = device;
                int a = account;
                checks.due("at first", 1, () -> Checks.bit(loom.link(d, a, false)));
                checks.due("withdrawn", 0, () -> Checks.bit(loom.link(d, a, false)));
            }
        }
        checks.due("still", 0, () -> Checks.bit(loom.link(3, 7, true)));
        checks.due("allowed again", 1, () -> Checks.bit(loom.link(3, 7, true)));
        checks.due("the others not", 0, () -> Checks.bit(loom.link(7, 3, true)));
    }

    private static void wrongArguments() {
        VisitorLoom loom = new VisitorLoom();
        for (int bad : new int[] {-1, 10, 19, 32, Integer.MIN_VALUE, Integer.MAX_VALUE}) {
            checks.wrongArgument("device " + bad, () -> Checks.bit(loom.link(bad, 0, false)));
            checks.wrongArgument("account " + bad, () -> Checks.bit(loom.link(0, bad, false)));
        }
        checks.due("still allowed", 1, () -> Checks.bit(loom.link(0, 0, true)));
    }

    private static void countsForEventsThatCame() {
        VisitorLoom loom = new VisitorLoom();
        loom.event(1, 0, 3, 0, -1, 1440);
        loom.event(2, 0, 4, 0, -1, 1440);
        loom.event(3, 1, 4, 0, -1, 1440);
        checks.due("over others", 3, () -> loom.profile(11));
        loom.link(0, 4, false);
        checks.due("cut", 4, () -> loom.profile(11));
        checks.due("the other link stays", 3, () -> loom.profile(10));
        checks.due("its event belongs to its device", 2, () -> loom.events(3, -1));
        loom.link(0, 4, true);
        checks.due("linked again", 3, () -> loom.profile(11));
    }

    private static void countsForEventsThatCome() {
        VisitorLoom loom = new VisitorLoom();
        loom.link(0, 3, false);
        loom.event(1, 0, 3, 0, -1, 1440);
        checks.due("not linked", 10, () -> loom.profile(10));
        checks.due("anew not either", 10, () -> loom.profileAnew(10));
        loom.event(2, 0, 4, 0, -1, 1440);
        checks.due("to another account", 4, () -> loom.profile(10));
        loom.link(0, 3, true);
        checks.due("linked", 3, () -> loom.profile(4));
    }

    private static void staysBehindForgetting() {
        VisitorLoom loom = new VisitorLoom();
        loom.event(1, 0, 3, 0, -1, 1440);
        loom.link(0, 3, false);
        checks.due("forget", 1, () -> loom.forget(10));
        loom.event(2, 0, 3, 0, -1, 1440);
        checks.due("still withdrawn", 10, () -> loom.profile(10));
    }
}
