import java.io.IOException;

/** The document's term "Groups", sentence by sentence. */
public final class GroupTermsTest {
    private static final String GROUPS = "Groups";
    private static final Checks checks = new Checks();

    public static void main(String[] args) throws IOException {
        Sentences sentences = new Sentences(checks, GROUPS);
        sentences.test(GROUPS, "Groups are numbered from 0, at most 8", GroupTermsTest::eightNumbers);
        sentences.test(GROUPS, "a group has a purpose, a kind, a least number and days", GroupTermsTest::eachHasItsOwn);
        sentences.test(GROUPS, "if at least so many events", GroupTermsTest::atLeastSoMany);
        sentences.test(GROUPS, "of this kind that belong to it count for the purpose", GroupTermsTest::thatCount);
        sentences.test(GROUPS, "a time that is not later than now", GroupTermsTest::notLaterThanNow);
        sentences.test(GROUPS, "later than now less so many days", GroupTermsTest::laterThanSoManyDaysAgo);
        sentences.test(GROUPS, "A node is in the groups of its profile", GroupTermsTest::nodesOfAProfile);
        sentences.test(GROUPS, "for each group, by rising numbers", GroupTermsTest::byGroups);
        sentences.test(GROUPS, "and each node, by rising numbers", GroupTermsTest::byNodes);
        sentences.test(GROUPS, "and was not told to be, it is told that it entered", GroupTermsTest::entered);
        sentences.test(GROUPS, "that is not in it and was told to be, that it left", GroupTermsTest::left);
        sentences.allHaveTests();
        checks.end();
    }

    private static void at(VisitorLoom loom, int number, int device, int account, int time) {
        loom.event(number, device, account, 0, VisitorLoom.NONE, time);
    }

    private static void tells(VisitorLoom loom, int... changes) {
        checks.due("tell", changes.length, () -> loom.tell());
        for (int place = 0; place < changes.length; place++) {
            int each = place;
            checks.due("told " + place, changes[place], () -> loom.told(each));
        }
        checks.wrongPlace("told no more", () -> loom.told(changes.length));
    }

    private static void in(VisitorLoom loom, int node, int set) {
        checks.due("groups of " + node, set, () -> loom.groups(node));
    }

    private static void eightNumbers() {
        VisitorLoom loom = new VisitorLoom();
        loom.consent(10, 0, 0, true);
        at(loom, 1, 0, -1, 1440);
        in(loom, 10, 0);
        for (int number = 0; number < 8; number++) {
            int due = number;
            checks.due("group " + number, due, () -> loom.group(0, 0, 1, 1));
            in(loom, 10, (2 << number) - 1);
        }
        checks.wrongState("a ninth", () -> loom.group(0, 0, 1, 1));
        in(loom, 10, 255);
        tells(loom, 10, 110, 210, 310, 410, 510, 610, 710);
    }

    private static void eachHasItsOwn() {
        VisitorLoom loom = new VisitorLoom();
        loom.group(0, 0, 1, 1);
        loom.group(1, 0, 1, 1);
        loom.group(0, 1, 1, 1);
        loom.group(0, 0, 2, 1);
        loom.group(0, 0, 1, 2);
        loom.pass(1440);
        loom.consent(10, 0, 0, true);
        loom.event(1, 0, -1, 0, -1, 1440);
        in(loom, 10, 16);
        loom.event(2, 0, -1, 0, -1, 1441);
        in(loom, 10, 17);
        loom.event(3, 0, -1, 0, -1, 1441);
        in(loom, 10, 25);
        loom.event(4, 0, -1, 1, -1, 1441);
        in(loom, 10, 29);
        loom.consent(10, 1, 0, true);
        in(loom, 10, 31);
    }

    private static void atLeastSoMany() {
        for (int least : new int[] {1, 2, 19, 20}) {
            VisitorLoom loom = new VisitorLoom();
            loom.group(0, 0, least, 1);
            loom.consent(10, 0, 0, true);
            for (int count = 0; count < least; count++) {
                in(loom, 10, 0);
                tells(loom);
                at(loom, count, 0, -1, 1440);
            }
            in(loom, 10, 1);
            tells(loom, 10);
            at(loom, 100, 0, -1, 1440);
            in(loom, 10, 1);
            tells(loom);
        }
    }

    private static void thatCount() {
        VisitorLoom loom = new VisitorLoom();
        loom.group(2, 0, 2, 1);
        loom.consent(10, 2, 0, true);
        at(loom, 1, 0, -1, 1440);
        loom.event(2, 0, -1, 1, -1, 1440);
        at(loom, 3, 0, 4, 1440);
        at(loom, 4, 1, -1, 1440);
        in(loom, 10, 0);
        tells(loom);
        loom.consent(4, 1, 0, true);
        in(loom, 10, 0);
        loom.consent(4, 2, 0, true);
        in(loom, 10, 1);
        tells(loom, 4, 10);
        loom.share(0, true);
        in(loom, 10, 0);
        in(loom, 4, 0);
        tells(loom, 1004, 1010);
    }

    private static void notLaterThanNow() {
        VisitorLoom loom = new VisitorLoom();
        loom.group(0, 0, 1, 30);
        loom.consent(10, 0, 0, true);
        at(loom, 1, 0, -1, 1442);
        in(loom, 10, 0);
        tells(loom);
        loom.pass(1);
        in(loom, 10, 0);
        tells(loom);
        loom.pass(1);
        in(loom, 10, 1);
        tells(loom, 10);
        loom.skew(0, -1);
        in(loom, 10, 0);
        tells(loom, 1010);
    }

    private static void laterThanSoManyDaysAgo() {
        for (int days : new int[] {1, 2, 13}) {
            VisitorLoom loom = new VisitorLoom();
            loom.group(0, 0, 1, days);
            loom.consent(10, 0, 0, true);
            at(loom, 1, 0, -1, 1440);
            tells(loom, 10);
            loom.pass(days * 1440 - 1);
            in(loom, 10, 1);
            tells(loom);
            loom.pass(1);
            in(loom, 10, 0);
            tells(loom, 1010);
        }
        VisitorLoom loom = new VisitorLoom();
        loom.group(0, 0, 1, 30);
        loom.group(0, 0, 1, 1);
        loom.consent(10, 0, 0, true);
        at(loom, 1, 0, -1, 0);
        in(loom, 10, 1);
        loom.pass(20000);
        loom.pass(20000);
        loom.pass(1759);
        in(loom, 10, 1);
        tells(loom, 10);
        loom.pass(1);
        in(loom, 10, 0);
        tells(loom, 1010);
    }

    private static void nodesOfAProfile() {
        VisitorLoom loom = new VisitorLoom();
        loom.group(0, 0, 3, 1);
        for (int account = 0; account < 10; account++) {
            loom.consent(account, 0, 0, true);
        }
        at(loom, 1, 0, 9, 1440);
        at(loom, 2, 5, 2, 1440);
        at(loom, 3, 5, 9, 1440);
        for (int node = 0; node < 20; node++) {
            boolean isOne = node == 2 || node == 9 || node == 10 || node == 15;
            in(loom, node, isOne ? 1 : 0);
        }
        tells(loom, 2, 9, 10, 15);
        loom.link(5, 2, false);
        in(loom, 2, 0);
        in(loom, 9, 1);
        tells(loom, 1002);
    }

    private static void byGroups() {
        VisitorLoom loom = new VisitorLoom();
        loom.group(0, 1, 1, 1);
        loom.group(0, 0, 1, 1);
        loom.group(0, 0, 1, 1);
        loom.consent(19, 0, 0, true);
        loom.consent(10, 0, 0, true);
        at(loom, 1, 9, -1, 1440);
        loom.event(2, 0, -1, 1, -1, 1440);
        tells(loom, 10, 119, 219);
        loom.consent(10, 0, 0, false);
        at(loom, 3, 9, 8, 1440);
        tells(loom, 1010, 108, 208);
    }

    private static void byNodes() {
        VisitorLoom loom = new VisitorLoom();
        loom.group(0, 0, 1, 1);
        for (int node = 19; node >= 0; node--) {
            loom.consent(node, 0, 0, true);
        }
        for (int number = 0; number < 10; number++) {
            at(loom, number, 9 - number, 9 - number, 1440);
        }
        tells(loom, 0, 1, 2, 3, 4, 5, 6, 7, 8, 9, 10, 11, 12, 13, 14, 15, 16, 17, 18, 19);
        loom.forget(5);
        loom.forget(3);
        tells(loom, 1003, 1005, 1013, 1015);
        loom.forget(4);
        at(loom, 20, 5, -1, 1440);
        at(loom, 21, 3, -1, 1440);
        loom.consent(13, 0, 0, true);
        loom.consent(15, 0, 0, true);
        tells(loom, 1004, 13, 1014, 15);
    }

    private static void entered() {
        VisitorLoom loom = new VisitorLoom();
        loom.group(0, 0, 1, 1);
        loom.consent(10, 0, 0, true);
        at(loom, 1, 0, -1, 1440);
        tells(loom, 10);
        tells(loom);
        at(loom, 2, 0, -1, 1440);
        tells(loom);
        loom.consent(10, 0, 0, false);
        loom.consent(10, 0, 0, true);
        tells(loom);
        at(loom, 3, 0, 6, 1440);
        tells(loom, 6);
        checks.due("in all", 2, () -> loom.toldInAll());
    }

    private static void left() {
        VisitorLoom loom = new VisitorLoom();
        loom.group(0, 0, 1, 1);
        at(loom, 1, 0, -1, 1440);
        tells(loom);
        loom.consent(10, 0, 0, true);
        loom.consent(10, 0, 0, false);
        tells(loom);
        loom.consent(10, 0, 0, true);
        tells(loom, 10);
        loom.forget(10);
        tells(loom, 1010);
        tells(loom);
        at(loom, 2, 0, -1, 1440);
        loom.consent(10, 0, 0, true);
        tells(loom, 10);
        loom.pass(1440);
        tells(loom, 1010);
        checks.due("in all", 4, () -> loom.toldInAll());
    }
}
