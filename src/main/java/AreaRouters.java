/** Routers in areas with two levels of routing; the document's promises say what each call answers. */
public final class AreaRouters {
    private static final int ROUTERS = 6;
    private static final int CIRCUITS = 6;
    private static final int AREAS = 3;
    private static final int LEVELS = 2;
    private static final int BOTH_LEVELS = 3;
    /** Part 0 of a router and one part for each circuit. */
    private static final int PARTS = 1 + CIRCUITS;
    private static final int NAMES = ROUTERS * PARTS;
    private static final int MAX_LINKS = 10;
    private static final int MAX_METRIC = 60;
    private static final int MAX_PRIORITY = 100;
    private static final int MAX_ATTACHED = 4;
    private static final int HEARD_TICKS = 4;
    private static final int FULL_LIFE = 20;
    private static final int RENEWAL_LIFE = 5;
    private static final int TICKS_AT_REST = 3;
    private static final int MAX_HOPS = 10;
    /** A link is held as description() tells it: its name plus 64 times its metric. */
    private static final int LINK_UNIT = 64;
    private static final int MARK_UNIT = 64;
    private static final int COST_UNIT = 8;
    private static final int NONE = -1;

    private final int[] areas;
    private final int[] levelSets;
    private final Wiring wiring;
    private final Hearing[] hearings;
    private final Base[] bases;
    private final Draft draft;
    private final Ways ways;

    public AreaRouters() {
        areas = new int[ROUTERS];
        levelSets = new int[ROUTERS];
        for (int r = 0; r < ROUTERS; r++) {
            levelSets[r] = 1;
        }
        wiring = new Wiring();
        hearings = new Hearing[LEVELS];
        for (int i = 0; i < LEVELS; i++) {
            hearings[i] = new Hearing();
        }
        bases = new Base[LEVELS * ROUTERS];
        for (int i = 0; i < LEVELS * ROUTERS; i++) {
            bases[i] = new Base();
        }
        draft = new Draft();
        ways = new Ways();
    }

    public boolean place(int r, int area, int levels) {
        if (!isRouter(r) || area < 0 || area >= AREAS || levels < 1 || levels > BOTH_LEVELS) {
            return false;
        }
        if (wiring.circuitsOf(r) != 0) {
            return false;
        }
        areas[r] = area;
        levelSets[r] = levels;
        return true;
    }

    public boolean attach(int r, int c, int metric, int priority) {
        if (!isRouter(r) || !isCircuit(c)) {
            return false;
        }
        if (metric < 1 || metric > MAX_METRIC || priority < 0 || priority > MAX_PRIORITY) {
            return false;
        }
        if (!wiring.isAttached(r, c) && wiring.countOn(c) >= MAX_ATTACHED) {
            return false;
        }
        wiring.join(r, c, metric, priority);
        return true;
    }

    public int hello(int r, int c, int meant) throws IndexOutOfBoundsException, IllegalStateException {
        checkSender(r, c);
        int received = 0;
        for (int x = 0; x < ROUTERS; x++) {
            if (x != r && isMeant(x, meant) && wiring.isAttached(x, c)) {
                noteHello(x, c, r);
                received++;
            }
        }
        return received;
    }

    public int spread(int r, int c, int l, int meant)
            throws IndexOutOfBoundsException, IllegalStateException, IllegalArgumentException {
        checkSender(r, c);
        checkLevel(r, l);
        Base base = baseOf(r, l);
        int sent = 0;
        for (int name = 0; name < NAMES; name++) {
            if (base.isDue(name, c)) {
                sent++;
                for (int x = 0; x < ROUTERS; x++) {
                    if (isReached(x, r, c, l, meant)) {
                        receive(x, c, l, base, name);
                    }
                }
                if (wiring.isShared(c)) {
                    base.setDue(name, c, false);
                }
            }
        }
        return sent;
    }

    public int summary(int r, int c, int l, int meant)
            throws IndexOutOfBoundsException, IllegalStateException, IllegalArgumentException {
        checkSender(r, c);
        checkLevel(r, l);
        Base base = baseOf(r, l);
        for (int x = 0; x < ROUTERS; x++) {
            if (isReached(x, r, c, l, meant)) {
                baseOf(x, l).compareWithSummary(base, c);
            }
        }
        return base.count();
    }

    public int request(int r, int c, int l, int meant)
            throws IndexOutOfBoundsException, IllegalStateException, IllegalArgumentException {
        checkSender(r, c);
        checkLevel(r, l);
        Base base = baseOf(r, l);
        int told = 0;
        for (int name = 0; name < NAMES; name++) {
            if (base.isAsked(name, c)) {
                told++;
                base.setAsked(name, c, false);
                for (int x = 0; x < ROUTERS; x++) {
                    if (isReached(x, r, c, l, meant)) {
                        baseOf(x, l).compareWithTold(base, name, c);
                    }
                }
            }
        }
        return told;
    }

    public int describe(int r) throws IndexOutOfBoundsException {
        if (!isRouter(r)) {
            throw new IndexOutOfBoundsException("no such router");
        }
        int changed = 0;
        for (int l = 1; l <= LEVELS; l++) {
            if (hasLevel(r, l)) {
                for (int part = 0; part < PARTS; part++) {
                    if (bringUpToDate(r, l, part)) {
                        changed++;
                    }
                }
            }
        }
        return changed;
    }

    public void tick() {
        for (int i = 0; i < LEVELS; i++) {
            hearings[i].age();
        }
        // A base grows older also at a level that its router has lost.
        for (int l = 1; l <= LEVELS; l++) {
            for (int r = 0; r < ROUTERS; r++) {
                baseOf(r, l).age(wiring.circuitsOf(r));
            }
        }
    }

    public boolean neighbour(int r, int c, int l, int n) {
        return isRouter(r) && isCircuit(c) && isLevel(l) && isRouter(n) && hearingAt(l).isMutual(r, c, n);
    }

    public int speaker(int r, int c, int l) {
        if (!isRouter(r) || !isCircuit(c) || !hasLevel(r, l) || !wiring.isAttached(r, c)) {
            return NONE;
        }
        return speakerSeenBy(r, c, l);
    }

    public int description(int r, int l, int name, int what) {
        if (!isRouter(r) || !isLevel(l) || !isName(name)) {
            return NONE;
        }
        return baseOf(r, l).tell(name, what);
    }

    public int marks(int r, int l, int name) {
        if (!isRouter(r) || !hasLevel(r, l) || !isName(name)) {
            return NONE;
        }
        return baseOf(r, l).marksOf(name);
    }

    public int route(int r, int d) {
        if (!isRouter(r) || !isRouter(d) || r == d) {
            return NONE;
        }
        return wayFrom(r, d);
    }

    public int trace(int r, int d) {
        if (!isRouter(r) || !isRouter(d)) {
            return NONE;
        }
        int at = r;
        for (int hops = 0; hops <= MAX_HOPS; hops++) {
            if (at == d) {
                return hops;
            }
            int way = wayFrom(at, d);
            if (way < 0) {
                return NONE;
            }
            at = way % COST_UNIT;
        }
        return NONE;
    }

    private static boolean isRouter(int r) {
        return r >= 0 && r < ROUTERS;
    }

    private static boolean isCircuit(int c) {
        return c >= 0 && c < CIRCUITS;
    }

    private static boolean isLevel(int l) {
        return l >= 1 && l <= LEVELS;
    }

    private static boolean isName(int name) {
        return name >= 0 && name < NAMES;
    }

    private static boolean isMeant(int x, int meant) {
        return (meant >> x & 1) != 0;
    }

    private static int nameOf(int router, int part) {
        return PARTS * router + part;
    }

    private static int routerOf(int name) {
        return name / PARTS;
    }

    private static int partOf(int name) {
        return name % PARTS;
    }

    private boolean hasLevel(int r, int l) {
        return isLevel(l) && (levelSets[r] & l) != 0;
    }

    private Base baseOf(int r, int l) {
        return bases[(l - 1) * ROUTERS + r];
    }

    private Hearing hearingAt(int l) {
        return hearings[l - 1];
    }

    private void checkSender(int r, int c) {
        if (!isRouter(r) || !isCircuit(c)) {
            throw new IndexOutOfBoundsException("no such router or circuit");
        }
        if (!wiring.isAttached(r, c)) {
            throw new IllegalStateException("the router is not attached to the circuit");
        }
    }

    private void checkLevel(int r, int l) {
        if (!hasLevel(r, l)) {
            throw new IllegalArgumentException("the router has no such level");
        }
    }

    private void noteHello(int x, int c, int r) {
        for (int l = 1; l <= LEVELS; l++) {
            boolean both = hasLevel(x, l) && hasLevel(r, l);
            if (both && (l == 2 || areas[x] == areas[r])) {
                Hearing hearing = hearingAt(l);
                hearing.note(x, c, r, hearing.isHeard(r, c, x));
            }
        }
    }

    /** Only others that are attached can have r as a neighbour, so these two need no test of their own. */
    private boolean isReached(int x, int r, int c, int l, int meant) {
        return isMeant(x, meant) && hearingAt(l).isMutual(x, c, r);
    }

    private int speakerSeenBy(int r, int c, int l) {
        int best = r;
        for (int n = 0; n < ROUTERS; n++) {
            if (hearingAt(l).isMutual(r, c, n)) {
                int ahead = wiring.priorityOf(n, c) - wiring.priorityOf(best, c);
                if (ahead > 0 || ahead == 0 && n > best) {
                    best = n;
                }
            }
        }
        return best;
    }

    private boolean hasLevelTwoNeighbourElsewhere(int r) {
        for (int c = 0; c < CIRCUITS; c++) {
            for (int n = 0; n < ROUTERS; n++) {
                if (areas[n] != areas[r] && hearingAt(2).isMutual(r, c, n)) {
                    return true;
                }
            }
        }
        return false;
    }

    /** Writes into the draft what r would say of a part now; false when r does not describe this part. */
    private boolean draftPart(int r, int l, int part) {
        draft.begin(areas[r]);
        if (part == 0) {
            draftItself(r, l);
            return true;
        }
        return draftCircuit(r, l, part - 1);
    }

    private void draftItself(int r, int l) {
        draft.exit = l == 1 && levelSets[r] == BOTH_LEVELS && hasLevelTwoNeighbourElsewhere(r);
        for (int c = 0; c < CIRCUITS; c++) {
            int n = hearingAt(l).firstMutual(r, c);
            if (n >= 0) {
                int name = wiring.isShared(c) ? nameOf(speakerSeenBy(r, c, l), 1 + c) : nameOf(n, 0);
                draft.addLink(name, wiring.metricOf(r, c));
            }
        }
    }

    private boolean draftCircuit(int r, int l, int c) {
        Hearing hearing = hearingAt(l);
        if (!wiring.isShared(c) || hearing.firstMutual(r, c) < 0 || speakerSeenBy(r, c, l) != r) {
            return false;
        }
        draft.addLink(nameOf(r, 0), 0);
        for (int n = 0; n < ROUTERS; n++) {
            if (hearing.isMutual(r, c, n)) {
                draft.addLink(nameOf(n, 0), 0);
            }
        }
        return true;
    }

    private boolean bringUpToDate(int r, int l, int part) {
        Base base = baseOf(r, l);
        int name = nameOf(r, part);
        if (draftPart(r, l, part)) {
            if (base.isStillTrue(name, draft)) {
                return false;
            }
            base.renew(name, draft, wiring.circuitsOf(r));
            return true;
        }
        if (!base.isAlive(name)) {
            return false;
        }
        base.end(name, wiring.circuitsOf(r));
        return true;
    }

    private void receive(int x, int c, int l, Base from, int name) {
        Base mine = baseOf(x, l);
        int order = mine.orderAgainst(from, name);
        if (order > 0) {
            mine.setDue(name, c, true);
            mine.setAsked(name, c, false);
            return;
        }
        if (order < 0) {
            mine.copyFrom(from, name);
            if (routerOf(name) == x && mine.isAlive(name)) {
                answerForOwn(x, l, name);
                return;
            }
            mine.setDueOn(name, wiring.circuitsOf(x));
        }
        mine.setDue(name, c, false);
        if (!wiring.isShared(c)) {
            mine.setAsked(name, c, true);
        }
    }

    /** Others have a description of x's own that x's base did not have: x outdoes it, or ends it. */
    private void answerForOwn(int x, int l, int name) {
        Base mine = baseOf(x, l);
        if (draftPart(x, l, partOf(name))) {
            mine.renew(name, draft, wiring.circuitsOf(x));
        } else {
            mine.end(name, wiring.circuitsOf(x));
            mine.askNowhere(name);
        }
    }

    private int wayFrom(int r, int d) {
        if (hasLevel(r, 1) && areas[r] == areas[d]) {
            ways.find(baseOf(r, 1), nameOf(r, 0));
            int way = ways.wayTo(d);
            if (way >= 0) {
                return way;
            }
        }
        return hasLevel(r, 2) ? wayToArea(r, areas[d]) : wayToExit(r);
    }

    private int wayToArea(int r, int area) {
        Base base = baseOf(r, 2);
        ways.find(base, nameOf(r, 0));
        int best = NONE;
        for (int n = 0; n < ROUTERS; n++) {
            if (n != r && base.areas[nameOf(n, 0)] == area) {
                best = ways.nearer(best, n);
            }
        }
        return ways.wayTo(best);
    }

    private int wayToExit(int r) {
        Base base = baseOf(r, 1);
        ways.find(base, nameOf(r, 0));
        int best = NONE;
        for (int n = 0; n < ROUTERS; n++) {
            if (n != r && base.exits[nameOf(n, 0)]) {
                best = ways.nearer(best, n);
            }
        }
        return ways.wayTo(best);
    }

    /** Who is attached where; nobody is ever detached. */
    private static final class Wiring {
        /** 0 where the router is not attached. */
        private final int[] metrics = new int[ROUTERS * CIRCUITS];
        private final int[] priorities = new int[ROUTERS * CIRCUITS];

        private void join(int r, int c, int metric, int priority) {
            metrics[r * CIRCUITS + c] = metric;
            priorities[r * CIRCUITS + c] = priority;
        }

        private int metricOf(int r, int c) {
            return metrics[r * CIRCUITS + c];
        }

        private int priorityOf(int r, int c) {
            return priorities[r * CIRCUITS + c];
        }

        private boolean isAttached(int r, int c) {
            return metrics[r * CIRCUITS + c] > 0;
        }

        private int countOn(int c) {
            int count = 0;
            for (int r = 0; r < ROUTERS; r++) {
                if (isAttached(r, c)) {
                    count++;
                }
            }
            return count;
        }

        private boolean isShared(int c) {
            return countOn(c) > 2;
        }

        private int circuitsOf(int r) {
            int set = 0;
            for (int c = 0; c < CIRCUITS; c++) {
                if (isAttached(r, c)) {
                    set |= 1 << c;
                }
            }
            return set;
        }
    }

    /** Who hears whom at one level: by hearer, circuit and the one that is heard. */
    private static final class Hearing {
        private static final int PAIRS = ROUTERS * CIRCUITS * ROUTERS;
        /** 0 where it is not heard. */
        private final int[] ticksLeft = new int[PAIRS];
        /** Whether the latest hello that was noted named the hearer. */
        private final boolean[] named = new boolean[PAIRS];

        private void note(int hearer, int c, int heard, boolean namesHearer) {
            int pair = (hearer * CIRCUITS + c) * ROUTERS + heard;
            ticksLeft[pair] = HEARD_TICKS;
            named[pair] = namesHearer;
        }

        private boolean isHeard(int hearer, int c, int heard) {
            return ticksLeft[(hearer * CIRCUITS + c) * ROUTERS + heard] > 0;
        }

        private boolean isMutual(int hearer, int c, int heard) {
            int pair = (hearer * CIRCUITS + c) * ROUTERS + heard;
            return ticksLeft[pair] > 0 && named[pair];
        }

        private int firstMutual(int hearer, int c) {
            for (int n = 0; n < ROUTERS; n++) {
                if (isMutual(hearer, c, n)) {
                    return n;
                }
            }
            return NONE;
        }

        private void age() {
            for (int pair = 0; pair < PAIRS; pair++) {
                if (ticksLeft[pair] > 0) {
                    ticksLeft[pair]--;
                }
            }
        }
    }

    /** What a router says of one of its parts, before it stands in a base. */
    private static final class Draft {
        private final int[] links = new int[MAX_LINKS];
        private int linkCount;
        private int area;
        private boolean exit;

        private void begin(int itsArea) {
            linkCount = 0;
            area = itsArea;
            exit = false;
        }

        private void addLink(int name, int metric) {
            if (linkCount < MAX_LINKS) {
                links[linkCount] = name + LINK_UNIT * metric;
                linkCount++;
            }
        }
    }

    /** The descriptions that one router has at one level, by name, with their marks. */
    private static final class Base {
        /** 0 where there is no description; then its life is 0 and it is due nowhere. */
        private final int[] sequences = new int[NAMES];
        private final int[] greatest = new int[NAMES];
        private final int[] lives = new int[NAMES];
        private final int[] ticksAtRest = new int[NAMES];
        private final boolean[] exits = new boolean[NAMES];
        private final int[] areas = new int[NAMES];
        private final int[] linkCounts = new int[NAMES];
        /** MAX_LINKS places for each name. */
        private final int[] links = new int[NAMES * MAX_LINKS];
        private final int[] due = new int[NAMES];
        private final int[] asked = new int[NAMES];

        private boolean has(int name) {
            return sequences[name] > 0;
        }

        private boolean isAlive(int name) {
            return lives[name] > 0;
        }

        private int count() {
            int count = 0;
            for (int name = 0; name < NAMES; name++) {
                if (has(name)) {
                    count++;
                }
            }
            return count;
        }

        private boolean isDue(int name, int c) {
            return (due[name] >> c & 1) != 0;
        }

        private boolean isAsked(int name, int c) {
            return (asked[name] >> c & 1) != 0;
        }

        private void setDue(int name, int c, boolean on) {
            due[name] = on ? due[name] | 1 << c : due[name] & ~(1 << c);
        }

        private void setAsked(int name, int c, boolean on) {
            asked[name] = on ? asked[name] | 1 << c : asked[name] & ~(1 << c);
        }

        private void setDueOn(int name, int circuits) {
            due[name] = circuits;
        }

        private void askNowhere(int name) {
            asked[name] = 0;
        }

        private int marksOf(int name) {
            return due[name] + MARK_UNIT * asked[name];
        }

        private int tell(int name, int what) {
            if (!has(name)) {
                return NONE;
            }
            switch (what) {
                case 0:
                    return sequences[name];
                case 1:
                    return lives[name];
                case 2:
                    return exits[name] ? 1 : 0;
                case 3:
                    return areas[name];
                case 4:
                    return linkCounts[name];
                default:
                    return what > 4 && what - 5 < linkCounts[name] ? linkOf(name, what - 5) : NONE;
            }
        }

        /** Above 0 when this base's is newer, below 0 when the other's is; none at all is older than any. */
        private int orderAgainst(Base other, int name) {
            if (sequences[name] != other.sequences[name]) {
                return sequences[name] - other.sequences[name];
            }
            if (isAlive(name) == other.isAlive(name)) {
                return 0;
            }
            return isAlive(name) ? -1 : 1;
        }

        private void compareWithTold(Base teller, int name, int c) {
            int order = orderAgainst(teller, name);
            setDue(name, c, order > 0);
            if (order < 0) {
                setAsked(name, c, true);
            }
        }

        private void compareWithSummary(Base teller, int c) {
            for (int name = 0; name < NAMES; name++) {
                if (teller.has(name)) {
                    compareWithTold(teller, name, c);
                } else if (isAlive(name)) {
                    setDue(name, c, true);
                }
            }
        }

        private boolean isStillTrue(int name, Draft draft) {
            if (lives[name] <= RENEWAL_LIFE || exits[name] != draft.exit || linkCounts[name] != draft.linkCount) {
                return false;
            }
            for (int k = 0; k < draft.linkCount; k++) {
                if (linkOf(name, k) != draft.links[k]) {
                    return false;
                }
            }
            return true;
        }

        private void renew(int name, Draft draft, int circuits) {
            greatest[name]++;
            sequences[name] = greatest[name];
            lives[name] = FULL_LIFE;
            exits[name] = draft.exit;
            areas[name] = draft.area;
            takeLinks(name, draft.links, 0, draft.linkCount);
            due[name] = circuits;
            asked[name] = 0;
        }

        private void copyFrom(Base other, int name) {
            sequences[name] = other.sequences[name];
            greatest[name] = Math.max(greatest[name], sequences[name]);
            lives[name] = other.lives[name];
            ticksAtRest[name] = 0;
            exits[name] = other.exits[name];
            areas[name] = other.areas[name];
            takeLinks(name, other.links, name * MAX_LINKS, other.linkCounts[name]);
        }

        private void takeLinks(int name, int[] from, int first, int count) {
            linkCounts[name] = count;
            for (int k = 0; k < count; k++) {
                links[name * MAX_LINKS + k] = from[first + k];
            }
        }

        private int linkOf(int name, int k) {
            return links[name * MAX_LINKS + k];
        }

        private void end(int name, int circuits) {
            lives[name] = 0;
            ticksAtRest[name] = 0;
            due[name] = circuits;
        }

        private void age(int circuits) {
            for (int name = 0; name < NAMES; name++) {
                if (isAlive(name)) {
                    lives[name]--;
                    if (!isAlive(name)) {
                        end(name, circuits);
                    }
                } else if (has(name)) {
                    ticksAtRest[name]++;
                    if (ticksAtRest[name] >= TICKS_AT_REST) {
                        remove(name);
                    }
                }
            }
        }

        /** The greatest sequence stays, so that a later description goes beyond it. */
        private void remove(int name) {
            sequences[name] = 0;
            linkCounts[name] = 0;
            due[name] = 0;
            asked[name] = 0;
        }

        private boolean hasLink(int name, int to) {
            for (int k = 0; k < linkCounts[name]; k++) {
                if (linkOf(name, k) % LINK_UNIT == to) {
                    return true;
                }
            }
            return false;
        }
    }

    /** The cheapest ways from one router to all names, with all their first hops. */
    private static final class Ways {
        private static final int FAR = 1000000;
        /** Stands among the first hops for a way that has met no router yet. */
        private static final int NO_HOP_YET = 1 << ROUTERS;

        private final int[] costs = new int[NAMES];
        /**
         * Sets of routers, not one: where a circuit is reached at one cost both straight and through a
         * neighbour, it depends on the router behind it which first hop is the least.
         */
        private final int[] firstHops = new int[NAMES];
        private final boolean[] settled = new boolean[NAMES];

        private void find(Base base, int start) {
            for (int name = 0; name < NAMES; name++) {
                costs[name] = FAR;
                firstHops[name] = 0;
                settled[name] = false;
            }
            costs[start] = 0;
            firstHops[start] = NO_HOP_YET;
            for (int round = 0; round < NAMES; round++) {
                int name = nextToSettle();
                if (name < 0) {
                    return;
                }
                settled[name] = true;
                followLinks(base, name);
            }
        }

        /** Circuits before routers at the same cost, for a circuit's own links cost nothing. */
        private int nextToSettle() {
            int best = NONE;
            for (int name = 0; name < NAMES; name++) {
                if (!settled[name] && costs[name] < FAR) {
                    if (best < 0 || costs[name] < costs[best]) {
                        best = name;
                    } else if (costs[name] == costs[best] && partOf(best) == 0 && partOf(name) > 0) {
                        best = name;
                    }
                }
            }
            return best;
        }

        private void followLinks(Base base, int name) {
            if (!base.isAlive(name)) {
                return;
            }
            for (int k = 0; k < base.linkCounts[name]; k++) {
                int link = base.linkOf(name, k);
                int to = link % LINK_UNIT;
                if (isName(to) && base.isAlive(to) && base.hasLink(to, name)) {
                    reach(to, costs[name] + link / LINK_UNIT, firstHops[name]);
                }
            }
        }

        private void reach(int to, int cost, int hopsBefore) {
            int hops = hopsBefore;
            if (partOf(to) == 0 && (hops & NO_HOP_YET) != 0) {
                hops = (hops & ~NO_HOP_YET) | 1 << routerOf(to);
            }
            if (cost < costs[to]) {
                costs[to] = cost;
                firstHops[to] = hops;
            } else if (cost == costs[to]) {
                firstHops[to] |= hops;
            }
        }

        /** The one of two routers that is nearer, the first if both are as near; -1 is farther than any. */
        private int nearer(int first, int second) {
            int before = isRouter(first) ? costs[nameOf(first, 0)] : FAR;
            return costs[nameOf(second, 0)] < before ? second : first;
        }

        private int wayTo(int d) {
            if (!isRouter(d) || costs[nameOf(d, 0)] >= FAR) {
                return NONE;
            }
            int hops = firstHops[nameOf(d, 0)];
            for (int n = 0; n < ROUTERS; n++) {
                if ((hops >> n & 1) != 0) {
                    return n + COST_UNIT * costs[nameOf(d, 0)];
                }
            }
            return NONE;
        }
    }
}
