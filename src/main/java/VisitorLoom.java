/**
 * Builds profiles of visitors from events of devices and accounts, and tells of their sessions, sums and groups.
 *
 * Events, nodes and groups are objects that hold one another, so that hardly an index is needed. Who is who is kept
 * in the nodes and found anew whenever something could take a link away; all else is found when it is asked for.
 */
public final class VisitorLoom {
    public static final int NONE = -1;

    private static final int ACCOUNTS = 10;
    private static final int DEVICES = 10;
    private static final int NODES = ACCOUNTS + DEVICES;
    private static final int NUMBERS = 1000;
    private static final int KINDS = 5;
    private static final int CAMPAIGNS = 10;
    private static final int PURPOSES = 4;
    private static final int MOST_EVENTS = 200;
    private static final int MOST_CHANGES = 20;
    private static final int MOST_GROUPS = 8;
    private static final int MOST_LEAST = 20;
    private static final int MOST_DAYS = 30;
    private static final int MOST_SKEW = 600;
    private static final int MOST_PASS = 20000;
    private static final int LATEST = 100000;
    private static final int DAY = 1440;
    private static final int PAUSE = 30;

    private static final int SESSION_BEGIN = 0;
    private static final int SESSION_LENGTH = 1;
    private static final int SESSION_EVENTS = 2;
    private static final int SESSION_CAMPAIGN = 3;

    private static final int GROUP_STEP = 100;
    private static final int LEFT_STEP = 1000;

    private final Node[] nodes;
    private final boolean[] cameNumbers;
    private final EventChain chain;
    private final Session cutter;
    private final int[] changesTold;
    private Group firstGroup;
    private Group lastGroup;
    private int groupCount;
    private int takenCount;
    private int changeCount;
    private int changeCountInAll;
    private int now;

    public VisitorLoom() {
        nodes = new Node[NODES];
        for (int number = 0; number < nodes.length; number++) {
            nodes[number] = new Node(number);
        }
        cameNumbers = new boolean[NUMBERS];
        chain = new EventChain();
        cutter = new Session();
        changesTold = new int[MOST_GROUPS * NODES];
        now = DAY;
    }

    public boolean event(int number, int device, int account, int kind, int campaign, int time)
            throws IllegalArgumentException, IllegalStateException {
        Node source = deviceAt(device);
        Node signedIn = accountAt(account);
        if (number < 0 || number >= cameNumbers.length || source == null || signedIn == null && account != NONE
                || !isKind(kind) || campaign < NONE || campaign >= CAMPAIGNS || !isMinute(time)) {
            throw new IllegalArgumentException("an argument is out of its range");
        }
        if (cameNumbers[number]) {
            return false;
        }
        if (takenCount >= MOST_EVENTS) {
            throw new IllegalStateException("as many events as can be were taken");
        }
        Event taken = new Event(number, source, signedIn, kind, campaign, time, takenCount);
        cameNumbers[number] = true;
        takenCount++;
        chain.put(taken);
        joinBy(taken);
        return true;
    }

    public int skew(int device, int skew) throws IllegalArgumentException {
        Node source = deviceAt(device);
        if (source == null || skew < -MOST_SKEW || skew > MOST_SKEW) {
            throw new IllegalArgumentException("device or skew is out of its range");
        }
        int before = source.skew;
        for (Event event = chain.first; event != null; event = event.next) {
            event.isMarked = event.device == source;
        }
        // They are taken out while the chain is still in order: putting back finds each one's new place.
        Event moved = chain.takeMarked();
        source.skew = skew;
        chain.putEach(moved);
        return before;
    }

    public boolean share(int device, boolean isShared) throws IllegalArgumentException {
        Node source = deviceAt(device);
        if (source == null) {
            throw new IllegalArgumentException("device is out of its range");
        }
        boolean before = source.isShared;
        source.isShared = isShared;
        findProfiles();
        return before;
    }

    public boolean link(int device, int account, boolean isAllowed) throws IllegalArgumentException {
        Node source = deviceAt(device);
        Node signedIn = accountAt(account);
        if (source == null || signedIn == null) {
            throw new IllegalArgumentException("device or account is out of its range");
        }
        boolean before = source.mayLink(signedIn);
        source.setMayLink(signedIn, isAllowed);
        findProfiles();
        return before;
    }

    public int consent(int node, int purpose, int from, boolean isGiven)
            throws IllegalArgumentException, IllegalStateException {
        Node found = nodeAt(node);
        if (found == null || !isPurpose(purpose) || from < 0 || from > now) {
            throw new IllegalArgumentException("node, purpose or from is out of its range");
        }
        int before = found.changesFor(purpose);
        if (before >= MOST_CHANGES) {
            throw new IllegalStateException("as many changes as can be were told");
        }
        found.addChange(purpose, from, isGiven);
        return before + 1;
    }

    public int group(int purpose, int kind, int least, int days)
            throws IllegalArgumentException, IllegalStateException {
        if (!isPurpose(purpose) || !isKind(kind) || least < 1 || least > MOST_LEAST || !areDays(days)) {
            throw new IllegalArgumentException("purpose, kind, least or days is out of its range");
        }
        if (groupCount >= MOST_GROUPS) {
            throw new IllegalStateException("there are as many groups as can be");
        }
        Group added = new Group(groupCount, purpose, kind, least, days);
        if (lastGroup == null) {
            firstGroup = added;
        } else {
            lastGroup.next = added;
        }
        lastGroup = added;
        groupCount++;
        return added.number;
    }

    public int forget(int node) throws IllegalArgumentException {
        Node lowest = neededNode(node).lowest();
        int gone = 0;
        for (Event event = chain.first; event != null; event = event.next) {
            event.isMarked = event.isOf(lowest);
            gone += event.isMarked ? 1 : 0;
        }
        chain.takeMarked();
        for (Node each : nodes) {
            if (each.lowest() == lowest) {
                each.clearChanges();
            }
        }
        findProfiles();
        return gone;
    }

    public int pass(int minutes) throws IllegalArgumentException, IllegalStateException {
        if (minutes < 1 || minutes > MOST_PASS) {
            throw new IllegalArgumentException("minutes is out of its range");
        }
        if (now + minutes > LATEST) {
            throw new IllegalStateException("now would be above the latest minute");
        }
        now += minutes;
        return now;
    }

    // ---- questions

    public int profile(int node) throws IllegalArgumentException {
        return neededNode(node).lowest().number;
    }

    public int profileAnew(int node) throws IllegalArgumentException {
        Node found = neededNode(node);
        findProfiles();
        return found.lowest().number;
    }

    public int events(int node, int kind) throws IllegalArgumentException {
        Node found = nodeAt(node);
        if (found == null || kind != NONE && !isKind(kind)) {
            throw new IllegalArgumentException("node or kind is out of its range");
        }
        Node lowest = found.lowest();
        int count = 0;
        for (Event event = chain.first; event != null; event = event.next) {
            if (event.isOf(lowest) && (kind == NONE || event.kind == kind)) {
                count++;
            }
        }
        return count;
    }

    public int eventAt(int node, int place) throws IndexOutOfBoundsException, IllegalArgumentException {
        Node lowest = neededNode(node).lowest();
        int count = 0;
        for (Event event = chain.first; event != null; event = event.next) {
            if (event.isOf(lowest)) {
                if (count == place) {
                    return event.number;
                }
                count++;
            }
        }
        throw new IndexOutOfBoundsException("there is no such place");
    }

    public int time(int number) {
        for (Event event = chain.first; event != null; event = event.next) {
            if (event.number == number) {
                return event.minute();
            }
        }
        return NONE;
    }

    public int sessions(int node) throws IllegalArgumentException {
        cutUpTo(neededNode(node).lowest(), MOST_EVENTS);
        return cutter.begun;
    }

    public int session(int node, int session, int what) throws IndexOutOfBoundsException, IllegalArgumentException {
        Node found = nodeAt(node);
        if (found == null || what < SESSION_BEGIN || what > SESSION_CAMPAIGN) {
            throw new IllegalArgumentException("node or what is out of its range");
        }
        cutUpTo(found.lowest(), session);
        if (session < 0 || session >= cutter.begun) {
            throw new IndexOutOfBoundsException("there is no such session");
        }
        switch (what) {
            case SESSION_BEGIN:
                return cutter.firstMinute;
            case SESSION_LENGTH:
                return cutter.lastMinute - cutter.firstMinute;
            case SESSION_EVENTS:
                return cutter.size;
            default:
                return cutter.campaign;
        }
    }

    public int counted(int node, int purpose, int kind, int minute, int days) throws IllegalArgumentException {
        Node found = nodeAt(node);
        if (found == null || !isPurpose(purpose) || !isKind(kind) || !isMinute(minute) || !areDays(days)) {
            throw new IllegalArgumentException("an argument is out of its range");
        }
        return countFor(found.lowest(), purpose, kind, minute, days);
    }

    public int groups(int node) throws IllegalArgumentException {
        Node lowest = neededNode(node).lowest();
        int set = 0;
        for (Group group = firstGroup; group != null; group = group.next) {
            if (countFor(lowest, group.purpose, group.kind, now, group.days) >= group.least) {
                set |= 1 << group.number;
            }
        }
        return set;
    }

    public int tell() {
        changeCount = 0;
        for (Group group = firstGroup; group != null; group = group.next) {
            tellOf(group);
        }
        changeCountInAll += changeCount;
        return changeCount;
    }

    public int told(int place) throws IndexOutOfBoundsException {
        if (place < 0 || place >= changeCount || place >= changesTold.length) {
            throw new IndexOutOfBoundsException("there is no such place");
        }
        return changesTold[place];
    }

    public int toldInAll() {
        return changeCountInAll;
    }

    // ---- ranges

    private Node nodeAt(int number) {
        return number < 0 || number >= nodes.length ? null : nodes[number];
    }

    private Node accountAt(int number) {
        return number < 0 || number >= ACCOUNTS ? null : nodeAt(number);
    }

    private Node deviceAt(int number) {
        return number < 0 || number >= DEVICES ? null : nodeAt(ACCOUNTS + number);
    }

    private Node neededNode(int number) throws IllegalArgumentException {
        Node found = nodeAt(number);
        if (found == null) {
            throw new IllegalArgumentException("node is out of its range");
        }
        return found;
    }

    private static boolean isKind(int kind) {
        return kind >= 0 && kind < KINDS;
    }

    private static boolean isPurpose(int purpose) {
        return purpose >= 0 && purpose < PURPOSES;
    }

    private static boolean isMinute(int minute) {
        return minute >= 0 && minute <= LATEST;
    }

    private static boolean areDays(int days) {
        return days >= 1 && days <= MOST_DAYS;
    }

    // ---- who is who

    private void findProfiles() {
        for (Node node : nodes) {
            node.standAlone();
        }
        for (Event event = chain.first; event != null; event = event.next) {
            joinBy(event);
        }
    }

    private void joinBy(Event event) {
        Node account = event.linkedAccount();
        if (account != null) {
            join(event.device.lowest(), account.lowest());
        }
    }

    private void join(Node one, Node other) {
        Node lower = one.number < other.number ? one : other;
        Node higher = one.number < other.number ? other : one;
        for (Node node : nodes) {
            if (node.lowest() == higher) {
                node.joinTo(lower);
            }
        }
    }

    // ---- sessions

    /** Leaves the cutter at the wanted session, or at the last one, if there are not so many. */
    private void cutUpTo(Node lowest, int wanted) {
        cutter.restart();
        for (Event event = chain.first; event != null; event = event.next) {
            if (event.isOf(lowest)) {
                boolean isCut = cutter.isCutBy(event);
                if (isCut && cutter.begun > wanted) {
                    return;
                }
                if (isCut) {
                    cutter.begin(event);
                }
                cutter.add(event);
            }
        }
    }

    // ---- sums and groups

    private int countFor(Node lowest, int purpose, int kind, int minute, int days) {
        int count = 0;
        for (Event event = chain.first; event != null; event = event.next) {
            if (event.isOf(lowest) && event.countsFor(purpose, kind, minute, days)) {
                count++;
            }
        }
        return count;
    }

    /** All profiles are counted in one walk: a walk for each node would cost twenty times as much. */
    private void tellOf(Group group) {
        for (Node node : nodes) {
            node.tally = 0;
        }
        for (Event event = chain.first; event != null; event = event.next) {
            if (event.countsFor(group.purpose, group.kind, now, group.days)) {
                event.owner().lowest().tally++;
            }
        }
        for (Node node : nodes) {
            boolean isIn = node.lowest().tally >= group.least;
            if (isIn != group.wasToldOf(node)) {
                group.turn(node);
                keepChange(group.number * GROUP_STEP + node.number + (isIn ? 0 : LEFT_STEP));
            }
        }
    }

    private void keepChange(int change) {
        if (changeCount >= 0 && changeCount < changesTold.length) {
            changesTold[changeCount] = change;
            changeCount++;
        }
    }

    /** An account or a device; the accounts are numbered first. */
    private static final class Node {
        final int number;
        private final Change[] latestChanges;
        // The lowest node of the profile, or null where that is this one.
        private Node lower;
        private int withdrawnAccounts;
        boolean isShared;
        int skew;
        int tally;

        Node(int number) {
            this.number = number;
            latestChanges = new Change[PURPOSES];
        }

        Node lowest() {
            return lower == null ? this : lower;
        }

        void standAlone() {
            lower = null;
        }

        void joinTo(Node lowest) {
            lower = lowest == this ? null : lowest;
        }

        boolean mayLink(Node account) {
            return (withdrawnAccounts & account.bit()) == 0;
        }

        void setMayLink(Node account, boolean isAllowed) {
            if (isAllowed) {
                withdrawnAccounts &= ~account.bit();
            } else {
                withdrawnAccounts |= account.bit();
            }
        }

        int bit() {
            return 1 << number;
        }

        int changesFor(int purpose) {
            int count = 0;
            for (Change change = latestChange(purpose); change != null; change = change.earlier) {
                count++;
            }
            return count;
        }

        /** Of changes for one minute the one told last stands first: so the first that fits is the one that counts. */
        void addChange(int purpose, int from, boolean isGiven) {
            if (!isPurpose(purpose)) {
                return;
            }
            Change later = null;
            Change earlier = latestChange(purpose);
            while (earlier != null && earlier.from > from) {
                later = earlier;
                earlier = earlier.earlier;
            }
            Change added = new Change(from, isGiven, earlier);
            if (later == null) {
                latestChanges[purpose] = added;
            } else {
                later.earlier = added;
            }
        }

        boolean hasConsent(int purpose, int minute) {
            Change change = latestChange(purpose);
            while (change != null && change.from > minute) {
                change = change.earlier;
            }
            return change != null && change.isGiven;
        }

        void clearChanges() {
            for (int purpose = 0; purpose < latestChanges.length; purpose++) {
                latestChanges[purpose] = null;
            }
        }

        private Change latestChange(int purpose) {
            return purpose < 0 || purpose >= latestChanges.length ? null : latestChanges[purpose];
        }
    }

    /** A change of a node's consent for a purpose, from a minute on. */
    private static final class Change {
        final int from;
        final boolean isGiven;
        Change earlier;

        Change(int from, boolean isGiven, Change earlier) {
            this.from = from;
            this.isGiven = isGiven;
            this.earlier = earlier;
        }
    }

    /** An event that was taken; its account is null, if it has none. */
    private static final class Event {
        final int number;
        final Node device;
        final Node account;
        final int kind;
        final int campaign;
        private final int toldMinute;
        private final int rank;
        boolean isMarked;
        Event next;

        Event(int number, Node device, Node account, int kind, int campaign, int toldMinute, int rank) {
            this.number = number;
            this.device = device;
            this.account = account;
            this.kind = kind;
            this.campaign = campaign;
            this.toldMinute = toldMinute;
            this.rank = rank;
        }

        int minute() {
            return Math.max(0, toldMinute - device.skew);
        }

        boolean isBefore(Event other) {
            int minute = minute();
            int otherMinute = other.minute();
            return minute < otherMinute || minute == otherMinute && rank < other.rank;
        }

        /** The account that it links its device to under the links of now, or null. */
        Node linkedAccount() {
            return account != null && !device.isShared && device.mayLink(account) ? account : null;
        }

        Node owner() {
            return device.isShared && account != null ? account : device;
        }

        boolean isOf(Node lowest) {
            return owner().lowest() == lowest;
        }

        boolean countsFor(int purpose, int wantedKind, int upTo, int days) {
            int minute = minute();
            return kind == wantedKind && minute <= upTo && minute > upTo - days * DAY
                    && (account == null ? device : account).hasConsent(purpose, minute);
        }
    }

    /** The events that are not forgotten, in order. */
    private static final class EventChain {
        Event first;
        private Event last;

        void put(Event added) {
            Event ahead = last != null && last.isBefore(added) ? last : null;
            Event behind = ahead == null ? first : null;
            while (behind != null && behind.isBefore(added)) {
                ahead = behind;
                behind = behind.next;
            }
            added.next = behind;
            if (ahead == null) {
                first = added;
            } else {
                ahead.next = added;
            }
            if (behind == null) {
                last = added;
            }
        }

        void putEach(Event firstAdded) {
            Event added = firstAdded;
            while (added != null) {
                Event rest = added.next;
                put(added);
                added = rest;
            }
        }

        /** Takes the marked events out, and returns the first of them; they go on in their order. */
        Event takeMarked() {
            Event event = first;
            Event firstTaken = null;
            Event lastTaken = null;
            first = null;
            last = null;
            while (event != null) {
                Event rest = event.next;
                event.next = null;
                if (!event.isMarked) {
                    if (last == null) {
                        first = event;
                    } else {
                        last.next = event;
                    }
                    last = event;
                } else {
                    if (lastTaken == null) {
                        firstTaken = event;
                    } else {
                        lastTaken.next = event;
                    }
                    lastTaken = event;
                }
                event = rest;
            }
            return firstTaken;
        }
    }

    /** Cuts events of a profile, which it is given in order, into sessions, and holds the latest one. */
    private static final class Session {
        int begun;
        int firstMinute;
        int lastMinute;
        int size;
        int campaign;

        void restart() {
            begun = 0;
        }

        boolean isCutBy(Event event) {
            int minute = event.minute();
            return begun == 0 || minute - lastMinute > PAUSE || minute / DAY != lastMinute / DAY
                    || campaign != NONE && event.campaign != NONE && event.campaign != campaign;
        }

        void begin(Event event) {
            begun++;
            firstMinute = event.minute();
            size = 0;
            campaign = NONE;
        }

        void add(Event event) {
            lastMinute = event.minute();
            size++;
            if (campaign == NONE) {
                campaign = event.campaign;
            }
        }
    }

    /** A group, and of which nodes it was told that they are in it. */
    private static final class Group {
        final int number;
        final int purpose;
        final int kind;
        final int least;
        final int days;
        private int toldNodes;
        Group next;

        Group(int number, int purpose, int kind, int least, int days) {
            this.number = number;
            this.purpose = purpose;
            this.kind = kind;
            this.least = least;
            this.days = days;
        }

        boolean wasToldOf(Node node) {
            return (toldNodes & node.bit()) != 0;
        }

        void turn(Node node) {
            toldNodes ^= node.bit();
        }
    }
}
