/** Promise 3: skew, and with it promise 14: time. */
public final class SkewTest {
    private static final Checks checks = new Checks();

    public static void main(String[] args) {
        answersTheOneBefore();
        wrongArguments();
        movesEarlierAndLaterEvents();
        clampsAtZeroAndComesBack();
        ordersAnew();
        checks.end();
    }

    private static void answersTheOneBefore() {
        VisitorLoom loom = new VisitorLoom();
        checks.due("first", 0, () -> loom.skew(0, 600));
        checks.due("second", 600, () -> loom.skew(0, -600));
        checks.due("third", -600, () -> loom.skew(0, 0));
        checks.due("another device", 0, () -> loom.skew(9, 1));
    }

    private static void wrongArguments() {
        VisitorLoom loom = new VisitorLoom();
        loom.event(1, 0, -1, 0, -1, 1440);
        loom.skew(0, 7);
        for (int device : new int[] {-1, 10, Integer.MIN_VALUE, Integer.MAX_VALUE}) {
            checks.wrongArgument("device " + device, () -> loom.skew(device, 0));
        }
        for (int skew : new int[] {-601, 601, Integer.MIN_VALUE, Integer.MAX_VALUE}) {
            checks.wrongArgument("skew " + skew, () -> loom.skew(0, skew));
        }
        checks.due("time stays", 1433, () -> loom.time(1));
        checks.due("skew stays", 7, () -> loom.skew(0, 7));
    }

    private static void movesEarlierAndLaterEvents() {
        VisitorLoom loom = new VisitorLoom();
        loom.event(1, 0, -1, 0, -1, 1440);
        loom.event(2, 1, -1, 0, -1, 1440);
        loom.skew(0, 40);
        loom.event(3, 0, -1, 0, -1, 100000);
        checks.due("earlier", 1400, () -> loom.time(1));
        checks.due("another device's", 1440, () -> loom.time(2));
        checks.due("later", 99960, () -> loom.time(3));
        loom.skew(0, -600);
        checks.due("above the range", 100600, () -> loom.time(3));
        checks.due("from what was told", 2040, () -> loom.time(1));
        for (int number : new int[] {0, 4, -1, 1000, Integer.MIN_VALUE, Integer.MAX_VALUE}) {
            checks.due("no event " + number, -1, () -> loom.time(number));
        }
    }

    private static void clampsAtZeroAndComesBack() {
        VisitorLoom loom = new VisitorLoom();
        loom.event(5, 0, -1, 0, -1, 300);
        loom.event(6, 0, -1, 0, -1, 100);
        loom.event(7, 0, -1, 0, -1, 200);
        order(loom, 10, 6, 7, 5);
        loom.skew(0, 300);
        checks.due("at zero", 0, () -> loom.time(5));
        checks.due("not below", 0, () -> loom.time(6));
        order(loom, 10, 5, 6, 7);
        loom.skew(0, 150);
        order(loom, 10, 6, 7, 5);
        checks.due("told less skew", 50, () -> loom.time(7));
    }

    private static void ordersAnew() {
        VisitorLoom loom = new VisitorLoom();
        loom.event(1, 0, 0, 0, -1, 1000);
        loom.event(2, 1, 0, 0, -1, 1010);
        loom.event(3, 0, 0, 0, -1, 1020);
        loom.event(4, 1, 0, 0, -1, 1030);
        order(loom, 0, 1, 2, 3, 4);
        loom.skew(0, -10);
        order(loom, 0, 1, 2, 3, 4);
        loom.skew(0, -11);
        order(loom, 0, 2, 1, 4, 3);
        loom.skew(1, 600);
        order(loom, 0, 2, 4, 1, 3);
        loom.event(5, 1, 0, 0, -1, 1700);
        loom.event(6, 1, 0, 0, -1, 900);
        order(loom, 0, 6, 2, 4, 1, 3, 5);
        loom.skew(1, 0);
        loom.skew(0, 0);
        order(loom, 0, 6, 1, 2, 3, 4, 5);
    }

    private static void order(VisitorLoom loom, int node, int... numbers) {
        for (int place = 0; place < numbers.length; place++) {
            int each = place;
            checks.due("place " + place, numbers[place], () -> loom.eventAt(node, each));
        }
        checks.wrongPlace("behind the last", () -> loom.eventAt(node, numbers.length));
    }
}
