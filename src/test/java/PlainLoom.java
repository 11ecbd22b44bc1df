import java.util.ArrayList;
import java.util.Comparator;
import java.util.HashMap;
import java.util.HashSet;
import java.util.List;
import java.util.Map;
import java.util.Set;

/** The document's words once more, by collections, with nothing kept that can be found: the model of ModelTest. */
final class PlainLoom {
    private record Event(int number, int device, int account, int kind, int campaign, int told) {
        boolean hasAccount() {
            return account >= 0;
        }
    }

    private record Change(int node, int purpose, int from, boolean isGiven) {
    }

    private record Group(int purpose, int kind, int least, int days) {
    }

    private final List<Event> came = new ArrayList<>();
    private final Set<Integer> numbers = new HashSet<>();
    private final Map<Integer, Integer> skews = new HashMap<>();
    private final Set<Integer> shared = new HashSet<>();
    private final Set<Integer> withdrawn = new HashSet<>();
    private final List<Change> changes = new ArrayList<>();
    private final List<Group> groups = new ArrayList<>();
    private final Set<Integer> toldToBe = new HashSet<>();
    private List<Integer> latest = new ArrayList<>();
    private int inAll;
    private int now = 1440;

    private static void range(int value, int least, int most) {
        if (value < least || value > most) {
            throw new IllegalArgumentException();
        }
    }

    long event(int number, int device, int account, int kind, int campaign, int time) {
        range(number, 0, 999);
        range(device, 0, 9);
        range(account, -1, 9);
        range(kind, 0, 4);
        range(campaign, -1, 9);
        range(time, 0, 100000);
        if (numbers.contains(number)) {
            return 0;
        }
        if (numbers.size() == 200) {
            throw new IllegalStateException();
        }
        numbers.add(number);
        came.add(new Event(number, device, account, kind, campaign, time));
        return 1;
    }

    long skew(int device, int skew) {
        range(device, 0, 9);
        range(skew, -600, 600);
        Integer before = skews.put(device, skew);
        return before == null ? 0 : before;
    }

    long share(int device, boolean isShared) {
        range(device, 0, 9);
        boolean before = shared.contains(device);
        if (isShared) {
            shared.add(device);
        } else {
            shared.remove(device);
        }
        return before ? 1 : 0;
    }

    long link(int device, int account, boolean isAllowed) {
        range(device, 0, 9);
        range(account, 0, 9);
        int pair = device * 10 + account;
        boolean before = !withdrawn.contains(pair);
        if (isAllowed) {
            withdrawn.remove(pair);
        } else {
            withdrawn.add(pair);
        }
        return before ? 1 : 0;
    }

    long consent(int node, int purpose, int from, boolean isGiven) {
        range(node, 0, 19);
        range(purpose, 0, 3);
        range(from, 0, now);
        long before = changes.stream().filter(c -> c.node == node && c.purpose == purpose).count();
        if (before == 20) {
            throw new IllegalStateException();
        }
        changes.add(new Change(node, purpose, from, isGiven));
        return before + 1;
    }

    long group(int purpose, int kind, int least, int days) {
        range(purpose, 0, 3);
        range(kind, 0, 4);
        range(least, 1, 20);
        range(days, 1, 30);
        if (groups.size() == 8) {
            throw new IllegalStateException();
        }
        groups.add(new Group(purpose, kind, least, days));
        return groups.size() - 1;
    }

    long forget(int node) {
        range(node, 0, 19);
        List<Event> gone = of(node);
        Set<Integer> nodes = new HashSet<>();
        for (int other = 0; other < 20; other++) {
            if (name(other) == name(node)) {
                nodes.add(other);
            }
        }
        changes.removeIf(c -> nodes.contains(c.node));
        came.removeAll(gone);
        return gone.size();
    }

    long pass(int minutes) {
        range(minutes, 1, 20000);
        if (now + minutes > 100000) {
            throw new IllegalStateException();
        }
        now += minutes;
        return now;
    }

    long profile(int node) {
        range(node, 0, 19);
        return name(node);
    }

    long events(int node, int kind) {
        range(node, 0, 19);
        range(kind, -1, 4);
        return of(node).stream().filter(e -> kind == -1 || e.kind == kind).count();
    }

    long eventAt(int node, int place) {
        range(node, 0, 19);
        List<Event> all = of(node);
        if (place < 0 || place >= all.size()) {
            throw new IndexOutOfBoundsException();
        }
        return all.get(place).number;
    }

    long time(int number) {
        return came.stream().filter(e -> e.number == number).mapToInt(this::minute).findFirst().orElse(-1);
    }

    long sessions(int node) {
        range(node, 0, 19);
        return cut(node).size();
    }

    long session(int node, int session, int what) {
        range(node, 0, 19);
        range(what, 0, 3);
        List<List<Event>> all = cut(node);
        if (session < 0 || session >= all.size()) {
            throw new IndexOutOfBoundsException();
        }
        List<Event> found = all.get(session);
        int begin = minute(found.get(0));
        return switch (what) {
            case 0 -> begin;
            case 1 -> minute(found.get(found.size() - 1)) - begin;
            case 2 -> found.size();
            default -> campaign(found);
        };
    }

    long counted(int node, int purpose, int kind, int minute, int days) {
        range(node, 0, 19);
        range(purpose, 0, 3);
        range(kind, 0, 4);
        range(minute, 0, 100000);
        range(days, 1, 30);
        return sum(node, purpose, kind, minute, days);
    }

    long groups(int node) {
        range(node, 0, 19);
        long set = 0;
        for (int g = 0; g < groups.size(); g++) {
            set |= isIn(groups.get(g), node) ? 1L << g : 0;
        }
        return set;
    }

    long tell() {
        latest = new ArrayList<>();
        for (int g = 0; g < groups.size(); g++) {
            for (int node = 0; node < 20; node++) {
                int key = g * 100 + node;
                boolean isIn = isIn(groups.get(g), node);
                if (isIn && toldToBe.add(key)) {
                    latest.add(key);
                }
                if (!isIn && toldToBe.remove(key)) {
                    latest.add(key + 1000);
                }
            }
        }
        inAll += latest.size();
        return latest.size();
    }

    long told(int place) {
        if (place < 0 || place >= latest.size()) {
            throw new IndexOutOfBoundsException();
        }
        return latest.get(place);
    }

    long toldInAll() {
        return inAll;
    }

    private int minute(Event event) {
        int minute = event.told - skews.getOrDefault(event.device, 0);
        return minute < 0 ? 0 : minute;
    }

    private int name(int node) {
        Set<Integer> reached = new HashSet<>(Set.of(node));
        boolean grows = true;
        while (grows) {
            grows = false;
            for (Event e : came) {
                if (e.hasAccount() && !shared.contains(e.device) && !withdrawn.contains(e.device * 10 + e.account)
                        && reached.contains(e.account) != reached.contains(e.device + 10)) {
                    reached.add(e.account);
                    reached.add(e.device + 10);
                    grows = true;
                }
            }
        }
        return reached.stream().min(Comparator.naturalOrder()).get();
    }

    private List<Event> of(int node) {
        List<Event> found = new ArrayList<>();
        int name = name(node);
        Map<Integer, Integer> names = new HashMap<>();
        for (Event e : came) {
            int owner = shared.contains(e.device) && e.hasAccount() ? e.account : e.device + 10;
            if (names.computeIfAbsent(owner, this::name) == name) {
                found.add(e);
            }
        }
        found.sort(Comparator.comparingInt(this::minute));
        return found;
    }

    private static int campaign(List<Event> session) {
        return session.stream().mapToInt(Event::campaign).filter(c -> c >= 0).findFirst().orElse(-1);
    }

    private List<List<Event>> cut(int node) {
        List<List<Event>> all = new ArrayList<>();
        List<Event> current = new ArrayList<>();
        for (Event e : of(node)) {
            if (!current.isEmpty()) {
                int ahead = minute(current.get(current.size() - 1));
                int campaign = campaign(current);
                boolean isOther = campaign >= 0 && e.campaign >= 0 && e.campaign != campaign;
                if (minute(e) > ahead + 30 || minute(e) / 1440 > ahead / 1440 || isOther) {
                    all.add(current);
                    current = new ArrayList<>();
                }
            }
            current.add(e);
        }
        if (!current.isEmpty()) {
            all.add(current);
        }
        return all;
    }

    private boolean isGiven(int node, int purpose, int minute) {
        Change best = null;
        for (Change c : changes) {
            if (c.node == node && c.purpose == purpose && c.from <= minute && (best == null || c.from >= best.from)) {
                best = c;
            }
        }
        return best != null && best.isGiven;
    }

    private int sum(int node, int purpose, int kind, int minute, int days) {
        int count = 0;
        for (Event e : of(node)) {
            int at = minute(e);
            if (e.kind == kind && at <= minute && at > minute - days * 1440
                    && isGiven(e.hasAccount() ? e.account : e.device + 10, purpose, at)) {
                count++;
            }
        }
        return count;
    }

    private boolean isIn(Group g, int node) {
        return sum(node, g.purpose, g.kind, now, g.days) >= g.least;
    }
}
