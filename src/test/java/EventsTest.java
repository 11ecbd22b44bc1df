/** Promises 12, 13 and 14: events, eventAt and time. */
public final class EventsTest {
    private static final Checks checks = new Checks();

    public static void main(String[] args) {
        wrongArguments();
        countsByKind();
        inOrder();
        checks.end();
    }

    private static void wrongArguments() {
        VisitorLoom loom = new VisitorLoom();
        loom.event(1, 0, 0, 0, -1, 1440);
        for (int bad : new int[] {-1, 20, Integer.MIN_VALUE, Integer.MAX_VALUE}) {
            checks.wrongArgument("events of " + bad, () -> loom.events(bad, -1));
            checks.wrongArgument("eventAt of " + bad, () -> loom.eventAt(bad, 0));
            checks.wrongArgument("eventAt of " + bad + ", no place", () -> loom.eventAt(bad, -1));
            checks.wrongArgument("eventAt of " + bad + ", no place", () -> loom.eventAt(bad, 5));
        }
        for (int bad : new int[] {-2, 5, Integer.MIN_VALUE, Integer.MAX_VALUE}) {
            checks.wrongArgument("kind " + bad, () -> loom.events(0, bad));
        }
        for (int bad : new int[] {-1, 1, 200, Integer.MIN_VALUE, Integer.MAX_VALUE}) {
            checks.wrongPlace("place " + bad, () -> loom.eventAt(0, bad));
        }
        checks.due("place 0", 1, () -> loom.eventAt(10, 0));
    }

    private static void countsByKind() {
        VisitorLoom loom = new VisitorLoom();
        int number = 0;
        for (int kind = 0; kind < 5; kind++) {
            for (int many = 0; many <= kind; many++) {
                loom.event(number++, many % 2, 3, kind, -1, 90000);
            }
        }
        loom.event(number, 7, -1, 2, -1, 1440);
        for (int node : new int[] {3, 10, 11}) {
            checks.due("all", 15, () -> loom.events(node, -1));
            for (int kind = 0; kind < 5; kind++) {
                int each = kind;
                checks.due("kind " + kind, kind + 1, () -> loom.events(node, each));
            }
        }
        checks.due("another's", 1, () -> loom.events(17, 2));
        checks.due("another's", 0, () -> loom.events(17, 3));
    }

    private static void inOrder() {
        VisitorLoom loom = new VisitorLoom();
        int[] times = {50, 20, 50, 90, 20, 10, 90, 55};
        int[] places = {5, 1, 4, 0, 2, 7, 3, 6};
        for (int number = 0; number < times.length; number++) {
            loom.event(900 - number, number % 3, 4, 0, -1, times[number]);
            loom.event(number, 9, -1, 0, -1, times[number]);
        }
        for (int place = 0; place < places.length; place++) {
            int each = place;
            checks.due("place " + place, 900 - places[place], () -> loom.eventAt(12, each));
            checks.due("another's place " + place, places[place], () -> loom.eventAt(19, each));
            checks.due("time", times[place], () -> loom.time(900 - each));
        }
    }
}
