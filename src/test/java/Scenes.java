/** Objects in states that differ: each call makes a new one, by at most 250 calls. */
final class Scenes {
    static final int SCENES = 3;

    private Scenes() {
    }

    static VisitorLoom at(int scene) {
        return switch (scene) {
            case 0 -> new VisitorLoom();
            case 1 -> mixed();
            default -> full();
        };
    }

    static int nowOf(int scene) {
        return scene == 0 ? 1440 : scene == 1 ? 2500 : 100000;
    }

    /** Some of each, with a shared device, a withdrawn link, a skew, something forgotten and something told. */
    private static VisitorLoom mixed() {
        VisitorLoom loom = new VisitorLoom();
        loom.pass(1060);
        loom.group(0, 0, 1, 30);
        loom.group(0, 1, 2, 2);
        loom.group(1, 0, 3, 1);
        for (int node = 0; node < 8; node++) {
            loom.consent(node, 0, 100 * node, true);
            loom.consent(node + 10, node % 4, 2000, node % 3 > 0);
        }
        for (int number = 0; number < 40; number++) {
            int account = number % 3 == 0 ? number % 7 : -1;
            loom.event(number * 3, number % 8, account, number % 3, number % 5 - 1, 1400 + 97 * number % 1100);
        }
        loom.skew(3, 45);
        loom.skew(9, -600);
        loom.share(4, true);
        loom.link(6, 6, false);
        loom.link(9, 9, false);
        loom.tell();
        loom.forget(5);
        loom.share(2, true);
        loom.tell();
        return loom;
    }

    /** 200 events, 8 groups, 20 changes of consent for node 0 and purpose 0, and no minute left. */
    private static VisitorLoom full() {
        VisitorLoom loom = new VisitorLoom();
        for (int step = 0; step < 4; step++) {
            loom.pass(20000);
        }
        loom.pass(18560);
        for (int change = 0; change < 20; change++) {
            loom.consent(0, 0, 99000 + 20 * change, change % 3 > 0);
        }
        for (int group = 0; group < 8; group++) {
            loom.group(0, 0, 1 + group, 1 + group);
        }
        for (int number = 0; number < 200; number++) {
            loom.event(number, number % 10, number % 4 == 0 ? number % 10 : -1, number % 2, -1, 99000 + 5 * number);
        }
        loom.skew(1, 600);
        loom.share(2, true);
        loom.link(4, 4, false);
        loom.tell();
        return loom;
    }
}
