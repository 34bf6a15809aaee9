import java.util.ArrayList;
import java.util.HashMap;
import java.util.HashSet;
import java.util.List;
import java.util.Map;
import java.util.Set;
import java.util.TreeMap;
import java.util.TreeSet;

/** The document read a second time, with maps and sets and without any thought of speed. */
final class PlainModel {
    record Link(int name, int metric) {
    }

    record Text(int sequence, boolean exit, int area, List<Link> links) {
    }

    static final class Entry {
        Text text;
        int life;
        int rest;
        final Set<Integer> due = new TreeSet<>();
    }

    static final class Shelf {
        final TreeMap<Integer, Entry> entries = new TreeMap<>();
        final Map<Integer, Set<Integer>> asked = new TreeMap<>();
        final Map<Integer, Integer> greatest = new HashMap<>();

        Set<Integer> askedOf(int name) {
            return asked.computeIfAbsent(name, k -> new TreeSet<>());
        }

        int sequence(int name) {
            return entries.containsKey(name) ? entries.get(name).text.sequence() : 0;
        }

        boolean over(int name) {
            return entries.containsKey(name) && entries.get(name).life == 0;
        }

        void put(int name, Text text, int life) {
            Entry entry = entries.computeIfAbsent(name, k -> new Entry());
            entry.text = text;
            entry.life = life;
            entry.rest = 0;
            greatest.merge(name, text.sequence(), Math::max);
        }
    }

    record Ear(int hearer, int circuit, int level, int heard) {
    }

    record Plug(int metric, int priority) {
    }

    private final int[] area = new int[6];
    private final int[] levels = {1, 1, 1, 1, 1, 1};
    private final Map<Integer, TreeMap<Integer, Plug>> circuits = new TreeMap<>();
    private final Map<Ear, Integer> heardFor = new HashMap<>();
    private final Set<Ear> namedBy = new HashSet<>();
    private final Shelf[][] shelves = new Shelf[6][3];

    PlainModel() {
        for (int i = 0; i < 6; i++) {
            circuits.put(i, new TreeMap<>());
            shelves[i][1] = new Shelf();
            shelves[i][2] = new Shelf();
        }
    }

    private static boolean in(int value, int low, int high) {
        return low <= value && value <= high;
    }

    private boolean attached(int r, int c) {
        return circuits.get(c).containsKey(r);
    }

    private boolean shared(int c) {
        return circuits.get(c).size() > 2;
    }

    private List<Integer> circuitsOf(int r) {
        List<Integer> list = new ArrayList<>();
        for (int c = 0; c < 6; c++) {
            if (attached(r, c)) {
                list.add(c);
            }
        }
        return list;
    }

    private boolean has(int r, int l) {
        return l == 1 && levels[r] != 2 || l == 2 && levels[r] != 1;
    }

    private List<Integer> neighbours(int r, int c, int l) {
        List<Integer> list = new ArrayList<>();
        for (int n = 0; n < 6; n++) {
            Ear ear = new Ear(r, c, l, n);
            if (heardFor.containsKey(ear) && namedBy.contains(ear)) {
                list.add(n);
            }
        }
        return list;
    }

    private List<Integer> receivers(int r, int c, int meant) {
        List<Integer> list = new ArrayList<>();
        for (int x : circuits.get(c).keySet()) {
            if (x != r && (meant & 1 << x) != 0) {
                list.add(x);
            }
        }
        return list;
    }

    boolean place(int r, int a, int lv) {
        if (!in(r, 0, 5) || !in(a, 0, 2) || !in(lv, 1, 3) || !circuitsOf(r).isEmpty()) {
            return false;
        }
        area[r] = a;
        levels[r] = lv;
        return true;
    }

    boolean attach(int r, int c, int metric, int priority) {
        if (!in(r, 0, 5) || !in(c, 0, 5) || !in(metric, 1, 60) || !in(priority, 0, 100)) {
            return false;
        }
        if (!attached(r, c) && circuits.get(c).size() == 4) {
            return false;
        }
        circuits.get(c).put(r, new Plug(metric, priority));
        return true;
    }

    private void checkSending(int r, int c) {
        if (!in(r, 0, 5) || !in(c, 0, 5)) {
            throw new IndexOutOfBoundsException();
        }
        if (!attached(r, c)) {
            throw new IllegalStateException();
        }
    }

    private void checkSending(int r, int c, int l) {
        checkSending(r, c);
        if (!has(r, l)) {
            throw new IllegalArgumentException();
        }
    }

    int hello(int r, int c, int meant) {
        checkSending(r, c);
        for (int x : receivers(r, c, meant)) {
            for (int l = 1; l <= 2; l++) {
                if (has(x, l) && has(r, l) && (l == 2 || area[x] == area[r])) {
                    Ear ear = new Ear(x, c, l, r);
                    heardFor.put(ear, 4);
                    if (heardFor.containsKey(new Ear(r, c, l, x))) {
                        namedBy.add(ear);
                    } else {
                        namedBy.remove(ear);
                    }
                }
            }
        }
        return receivers(r, c, meant).size();
    }

    int spread(int r, int c, int l, int meant) {
        checkSending(r, c, l);
        Shelf from = shelves[r][l];
        List<Integer> names = new ArrayList<>();
        for (int name : from.entries.keySet()) {
            if (from.entries.get(name).due.contains(c)) {
                names.add(name);
            }
        }
        for (int name : names) {
            for (int x : receivers(r, c, meant)) {
                if (neighbours(x, c, l).contains(r)) {
                    take(x, c, l, name, from.entries.get(name));
                }
            }
            if (shared(c)) {
                from.entries.get(name).due.remove(c);
            }
        }
        return names.size();
    }

    private static boolean newer(int sequence, boolean over, int otherSequence, boolean otherOver) {
        return sequence > otherSequence || sequence == otherSequence && over && !otherOver;
    }

    private void take(int x, int c, int l, int name, Entry sent) {
        Shelf mine = shelves[x][l];
        boolean none = !mine.entries.containsKey(name);
        if (none || newer(sent.text.sequence(), sent.life == 0, mine.sequence(name), mine.over(name))) {
            mine.put(name, sent.text, sent.life);
            Entry entry = mine.entries.get(name);
            entry.due.clear();
            entry.due.addAll(circuitsOf(x));
            if (name / 7 == x && sent.life > 0) {
                Text now = text(x, l, name % 7);
                if (now != null) {
                    mine.put(name, now, 20);
                } else {
                    entry.life = 0;
                }
                mine.askedOf(name).clear();
            } else {
                entry.due.remove(c);
                if (!shared(c)) {
                    mine.askedOf(name).add(c);
                }
            }
        } else if (newer(mine.sequence(name), mine.over(name), sent.text.sequence(), sent.life == 0)) {
            mine.entries.get(name).due.add(c);
            mine.askedOf(name).remove(c);
        } else {
            mine.entries.get(name).due.remove(c);
            if (!shared(c)) {
                mine.askedOf(name).add(c);
            }
        }
    }

    private void hearTold(int x, int c, int l, int name, int sequence, boolean over) {
        Shelf mine = shelves[x][l];
        Entry entry = mine.entries.get(name);
        if (entry == null) {
            if (sequence > 0) {
                mine.askedOf(name).add(c);
            }
        } else if (newer(mine.sequence(name), mine.over(name), sequence, over)) {
            entry.due.add(c);
        } else {
            entry.due.remove(c);
            if (newer(sequence, over, mine.sequence(name), mine.over(name))) {
                mine.askedOf(name).add(c);
            }
        }
    }

    int summary(int r, int c, int l, int meant) {
        checkSending(r, c, l);
        Shelf told = shelves[r][l];
        for (int x : receivers(r, c, meant)) {
            if (neighbours(x, c, l).contains(r)) {
                for (int name : told.entries.keySet()) {
                    hearTold(x, c, l, name, told.sequence(name), told.over(name));
                }
                for (Map.Entry<Integer, Entry> e : shelves[x][l].entries.entrySet()) {
                    if (!told.entries.containsKey(e.getKey()) && e.getValue().life > 0) {
                        e.getValue().due.add(c);
                    }
                }
            }
        }
        return told.entries.size();
    }

    int request(int r, int c, int l, int meant) {
        checkSending(r, c, l);
        Shelf told = shelves[r][l];
        List<Integer> names = new ArrayList<>();
        for (int name = 0; name < 42; name++) {
            if (told.askedOf(name).remove(c)) {
                names.add(name);
            }
        }
        for (int x : receivers(r, c, meant)) {
            if (neighbours(x, c, l).contains(r)) {
                for (int name : names) {
                    hearTold(x, c, l, name, told.sequence(name), told.over(name));
                }
            }
        }
        return names.size();
    }

    /** What r says of a part now, with the sequence that comes next; null when it does not describe it. */
    private Text text(int r, int l, int part) {
        List<Link> links = new ArrayList<>();
        boolean exit = false;
        if (part == 0) {
            for (int c : circuitsOf(r)) {
                int metric = circuits.get(c).get(r).metric();
                List<Integer> near = neighbours(r, c, l);
                if (!near.isEmpty()) {
                    links.add(new Link(shared(c) ? 7 * speaker(r, c, l) + 1 + c : 7 * near.get(0), metric));
                }
                if (l == 1 && levels[r] == 3) {
                    for (int n : neighbours(r, c, 2)) {
                        exit |= area[n] != area[r];
                    }
                }
            }
        } else {
            int c = part - 1;
            if (!shared(c) || !attached(r, c) || neighbours(r, c, l).isEmpty() || speaker(r, c, l) != r) {
                return null;
            }
            links.add(new Link(7 * r, 0));
            for (int n : neighbours(r, c, l)) {
                links.add(new Link(7 * n, 0));
            }
        }
        int next = shelves[r][l].greatest.getOrDefault(7 * r + part, 0) + 1;
        return new Text(next, exit, area[r], links);
    }

    int describe(int r) {
        if (!in(r, 0, 5)) {
            throw new IndexOutOfBoundsException();
        }
        int count = 0;
        for (int l = 1; l <= 2; l++) {
            for (int part = 0; has(r, l) && part < 7; part++) {
                count += describePart(r, l, part) ? 1 : 0;
            }
        }
        return count;
    }

    private boolean describePart(int r, int l, int part) {
        Shelf mine = shelves[r][l];
        int name = 7 * r + part;
        Entry entry = mine.entries.get(name);
        Text now = text(r, l, part);
        if (now == null) {
            if (entry == null || entry.life == 0) {
                return false;
            }
            entry.life = 0;
            entry.rest = 0;
            entry.due.addAll(circuitsOf(r));
            return true;
        }
        if (entry != null && entry.life > 5 && entry.text.exit() == now.exit()
                && entry.text.links().equals(now.links())) {
            return false;
        }
        mine.put(name, now, 20);
        mine.entries.get(name).due.addAll(circuitsOf(r));
        mine.askedOf(name).clear();
        return true;
    }

    void tick() {
        for (Ear ear : new ArrayList<>(heardFor.keySet())) {
            int left = heardFor.get(ear) - 1;
            if (left > 0) {
                heardFor.put(ear, left);
            } else {
                heardFor.remove(ear);
            }
        }
        for (int r = 0; r < 6; r++) {
            for (int l = 1; l <= 2; l++) {
                Shelf mine = shelves[r][l];
                for (int name : new ArrayList<>(mine.entries.keySet())) {
                    Entry entry = mine.entries.get(name);
                    if (entry.life == 0) {
                        entry.rest++;
                        if (entry.rest == 3) {
                            mine.entries.remove(name);
                            mine.askedOf(name).clear();
                        }
                    } else {
                        entry.life--;
                        if (entry.life == 0) {
                            entry.due.addAll(circuitsOf(r));
                        }
                    }
                }
            }
        }
    }

    boolean neighbour(int r, int c, int l, int n) {
        return neighbours(r, c, l).contains(n);
    }

    int speaker(int r, int c, int l) {
        if (!in(r, 0, 5) || !in(c, 0, 5) || !in(l, 1, 2) || !has(r, l) || !attached(r, c)) {
            return -1;
        }
        Set<Integer> all = new TreeSet<>(neighbours(r, c, l));
        all.add(r);
        int best = -1;
        for (int n : all) {
            if (best < 0 || circuits.get(c).get(n).priority() >= circuits.get(c).get(best).priority()) {
                best = n;
            }
        }
        return best;
    }

    int description(int r, int l, int name, int what) {
        if (!in(r, 0, 5) || !in(l, 1, 2) || !shelves[r][l].entries.containsKey(name) || what < 0) {
            return -1;
        }
        Entry entry = shelves[r][l].entries.get(name);
        List<Integer> all = new ArrayList<>(List.of(entry.text.sequence(), entry.life, entry.text.exit() ? 1 : 0,
                entry.text.area(), entry.text.links().size()));
        for (Link link : entry.text.links()) {
            all.add(link.name() + 64 * link.metric());
        }
        return what < all.size() ? all.get(what) : -1;
    }

    int marks(int r, int l, int name) {
        if (!in(r, 0, 5) || !in(l, 1, 2) || !has(r, l) || !in(name, 0, 41)) {
            return -1;
        }
        int sum = 0;
        if (shelves[r][l].entries.containsKey(name)) {
            for (int c : shelves[r][l].entries.get(name).due) {
                sum += 1 << c;
            }
        }
        for (int c : shelves[r][l].askedOf(name)) {
            sum += 64 << c;
        }
        return sum;
    }

    /** The best ways from r at a level: router d to its cost times 8 plus its first hop. */
    private Map<Integer, Integer> waysOf(int r, int l) {
        Map<Integer, List<Link>> joined = new TreeMap<>();
        Shelf mine = shelves[r][l];
        for (int name : mine.entries.keySet()) {
            joined.put(name, new ArrayList<>());
            for (Link link : liveLinks(mine, name)) {
                for (Link back : liveLinks(mine, link.name())) {
                    if (back.name() == name) {
                        joined.get(name).add(link);
                    }
                }
            }
        }
        // cost[name][h]: of ways with first hop h; h = 6 while no router was met behind r.
        int[][] cost = new int[42][7];
        for (int[] row : cost) {
            java.util.Arrays.fill(row, 99999);
        }
        cost[7 * r][6] = 0;
        for (boolean better = true; better;) {
            better = false;
            for (int name : joined.keySet()) {
                for (Link link : joined.get(name)) {
                    for (int h = 0; h < 7; h++) {
                        int to = link.name();
                        int hop = h == 6 && to % 7 == 0 ? to / 7 : h;
                        if (cost[name][h] + link.metric() < cost[to][hop]) {
                            cost[to][hop] = cost[name][h] + link.metric();
                            better = true;
                        }
                    }
                }
            }
        }
        Map<Integer, Integer> ways = new TreeMap<>();
        for (int d = 0; d < 6; d++) {
            for (int h = 0; h < 6; h++) {
                if (d != r && cost[7 * d][h] < 99999) {
                    ways.merge(d, 8 * cost[7 * d][h] + h, Math::min);
                }
            }
        }
        return ways;
    }

    private static List<Link> liveLinks(Shelf shelf, int name) {
        Entry entry = shelf.entries.get(name);
        return entry == null || entry.life == 0 ? List.of() : entry.text.links();
    }

    int route(int r, int d) {
        if (!in(r, 0, 5) || !in(d, 0, 5) || r == d) {
            return -1;
        }
        if (has(r, 1) && area[d] == area[r]) {
            Integer way = waysOf(r, 1).get(d);
            if (way != null) {
                return way;
            }
        }
        int l = has(r, 2) ? 2 : 1;
        int best = -1;
        for (Map.Entry<Integer, Integer> e : waysOf(r, l).entrySet()) {
            Text text = shelves[r][l].entries.get(7 * e.getKey()).text;
            boolean fits = l == 2 ? text.area() == area[d] : text.exit();
            if (fits && (best < 0 || e.getValue() / 8 < best / 8)) {
                best = e.getValue();
            }
        }
        return best;
    }

    int trace(int r, int d) {
        if (!in(r, 0, 5) || !in(d, 0, 5)) {
            return -1;
        }
        List<Integer> path = new ArrayList<>(List.of(r));
        while (path.get(path.size() - 1) != d) {
            int way = route(path.get(path.size() - 1), d);
            if (way < 0 || path.size() > 10) {
                return -1;
            }
            path.add(way % 8);
        }
        return path.size() - 1;
    }
}
