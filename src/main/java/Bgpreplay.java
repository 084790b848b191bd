import java.util.NoSuchElementException;

/**
 * A replayer of route tables. The routes that stand now are held in a prefix tree; every route that was ever
 * announced is also kept with the updates between which it stood, so that a table of an earlier time is read
 * off and need not be built again.
 */
public final class Bgpreplay {
    public static final int NONE = -1;
    public static final int NOT_FOUND = 0, VALID = 1, INVALID = 2;
    public static final int STRANGE = 0, PROVIDES = 1, ALIKE = 2, PROVIDED = 3;
    public static final int FREE = 0, VALLEY = 1, UNCERTAIN = 2;

    private static final int MOST_TICKS = 1000;
    private static final int LAST_TIME = 1000000;
    private static final int MOST_HOPS = 8;
    private static final int MOST_UPDATES = 300;
    private static final int MOST_ENTRIES = 20;
    private static final int PEERS = 6;
    private static final int NETWORKS = 30;
    private static final int BITS = 8;
    private static final int ADDRESSES = 1 << BITS;

    // Prefixes are numbered as nodes of a binary tree: the halves of the prefix n are 2n and 2n + 1.
    private static final int ROOT = 1;
    private static final int PREFIX_NUMBERS = 2 * ADDRESSES;

    private final Path making;
    private final Tree tree;
    private final History history;
    private final Registry registry;
    private final Relations relations;
    private int time;

    public Bgpreplay() {
        making = new Path();
        tree = new Tree();
        history = new History();
        registry = new Registry();
        relations = new Relations();
        time = 0;
    }

    // ---- time and paths

    public int pass(int ticks) throws IllegalArgumentException, IllegalStateException {
        if (ticks < 1 || ticks > MOST_TICKS) {
            throw new IllegalArgumentException("ticks is out of range");
        }
        if (time > LAST_TIME - ticks) {
            throw new IllegalStateException("the time would be above 1000000");
        }
        time += ticks;
        return time;
    }

    public int now() {
        return time;
    }

    public int hop(int network) throws IllegalArgumentException, IllegalStateException {
        if (!isNetwork(network)) {
            throw new IllegalArgumentException("no such network");
        }
        if (making.isFull()) {
            throw new IllegalStateException("the path has 8 networks");
        }
        if (making.hasLeft(network)) {
            throw new IllegalStateException("the path has this network and another one behind it");
        }
        making.add(network);
        return making.size();
    }

    public int clearPath() {
        int size = making.size();
        making.clear();
        return size;
    }

    // ---- updates

    public boolean announce(int peer, int address, int length)
            throws IndexOutOfBoundsException, IllegalArgumentException, IllegalStateException {
        needPeer(peer);
        Prefix prefix = needPrefix(address, length);
        if (making.networkAt(0) != networkOf(peer)) {
            throw new IllegalStateException("the path does not begin with the network of the peer");
        }
        needRoomForUpdate();
        Route former = tree.routeOf(peer, prefix.number);
        if (former != null) {
            endRoute(former);
        }
        Route route = new Route(peer, prefix, making.copy(), history.size());
        tree.put(route);
        history.keep(route);
        history.noteUpdate(time);
        return former == null;
    }

    public int withdraw(int peer, int address, int length)
            throws IndexOutOfBoundsException, IllegalArgumentException, NoSuchElementException, IllegalStateException {
        Route route = needRoute(peer, address, length);
        needRoomForUpdate();
        endRoute(route);
        history.noteUpdate(time);
        return tree.countOfPeer(peer);
    }

    public int drop(int peer) throws IndexOutOfBoundsException, IllegalStateException {
        needPeer(peer);
        needRoomForUpdate();
        int had = tree.countOfPeer(peer);
        for (int number = ROOT; number < PREFIX_NUMBERS; number++) {
            Route route = tree.routeOf(peer, number);
            if (route != null) {
                endRoute(route);
            }
        }
        history.noteUpdate(time);
        return had;
    }

    public int updates() {
        return history.size();
    }

    // ---- the table now

    public int routes(int peer) throws IndexOutOfBoundsException {
        needPeer(peer);
        return tree.countOfPeer(peer);
    }

    public int prefixes() {
        return tree.countPrefixes();
    }

    public int pathAt(int peer, int address, int length, int place)
            throws IndexOutOfBoundsException, IllegalArgumentException, NoSuchElementException {
        if (place < 0) {
            throw new IndexOutOfBoundsException("place is below 0");
        }
        return needRoute(peer, address, length).path.networkAt(place);
    }

    public int bestPeer(int address, int length) throws IllegalArgumentException {
        Route best = tree.bestOf(needPrefix(address, length).number);
        return best == null ? NONE : best.peer;
    }

    public int lookUp(int address) throws IndexOutOfBoundsException {
        needAddress(address);
        return tree.longestLengthFor(address);
    }

    public int lookUpByScan(int address) throws IndexOutOfBoundsException {
        needAddress(address);
        // Of all kept routes, those that stand behind the last update are the ones that the peers have now.
        return lengthOf(history.routeFor(address, history.size()));
    }

    public int origins(int address, int length) throws IllegalArgumentException {
        return tree.countOrigins(needPrefix(address, length).number);
    }

    public int contested() {
        int count = 0;
        for (int number = ROOT; number < PREFIX_NUMBERS; number++) {
            if (tree.countOrigins(number) > 1) {
                count++;
            }
        }
        return count;
    }

    public boolean isHijack(int peer, int address, int length)
            throws IndexOutOfBoundsException, IllegalArgumentException, NoSuchElementException {
        Route route = needRoute(peer, address, length);
        int cover = tree.nearestAbove(route.prefix.number);
        return cover != NONE && !tree.hasOrigin(cover, route.path.origin());
    }

    // ---- registry and relations

    public boolean allow(int address, int length, int longest, int origin)
            throws IllegalArgumentException, IllegalStateException {
        Prefix prefix = needPrefix(address, length);
        if (!isNetwork(origin)) {
            throw new IllegalArgumentException("no such network");
        }
        if (longest < length || longest > BITS) {
            throw new IllegalArgumentException("longest is out of range");
        }
        Entry entry = new Entry(prefix, longest, origin);
        int place = registry.placeOf(entry);
        if (place != NONE) {
            registry.takeOut(place);
            return false;
        }
        if (registry.isFull()) {
            throw new IllegalStateException("there are 20 entries");
        }
        registry.add(entry);
        return true;
    }

    public int verdict(int peer, int address, int length)
            throws IndexOutOfBoundsException, IllegalArgumentException, NoSuchElementException {
        return registry.judge(needRoute(peer, address, length));
    }

    public int relate(int network, int other, int relation) throws IllegalArgumentException {
        if (!isNetwork(network) || !isNetwork(other) || network == other) {
            throw new IllegalArgumentException("no such two networks");
        }
        if (relation < STRANGE || relation > PROVIDED) {
            throw new IllegalArgumentException("no such relation");
        }
        int before = relations.between(network, other);
        relations.put(network, other, relation);
        relations.put(other, network, reverseOf(relation));
        return before;
    }

    public int valley(int peer, int address, int length)
            throws IndexOutOfBoundsException, IllegalArgumentException, NoSuchElementException {
        return relations.shapeOf(needRoute(peer, address, length).path);
    }

    // ---- tables at other times

    public int lookUpAt(int time, int address) throws IndexOutOfBoundsException {
        needAddress(address);
        return lengthOf(history.routeFor(address, history.sizeAt(time)));
    }

    public int originAt(int time, int address) throws IndexOutOfBoundsException {
        needAddress(address);
        Route route = history.routeFor(address, history.sizeAt(time));
        return route == null ? NONE : route.path.origin();
    }

    public int changes(int time, int other) {
        return history.countUnlike(history.sizeAt(time), history.sizeAt(other));
    }

    // ---- what the calls share

    private void needPeer(int peer) {
        if (!isPeer(peer)) {
            throw new IndexOutOfBoundsException("no such peer");
        }
    }

    private void needAddress(int address) {
        if (!isAddress(address)) {
            throw new IndexOutOfBoundsException("no such address");
        }
    }

    private Prefix needPrefix(int address, int length) {
        if (!isPrefix(address, length)) {
            throw new IllegalArgumentException("no such prefix");
        }
        return new Prefix(address, length);
    }

    private Route needRoute(int peer, int address, int length) {
        needPeer(peer);
        Route route = tree.routeOf(peer, needPrefix(address, length).number);
        if (route == null) {
            throw new NoSuchElementException("the peer has no route for the prefix");
        }
        return route;
    }

    private void needRoomForUpdate() {
        if (history.isFull()) {
            throw new IllegalStateException("there are 300 updates");
        }
    }

    /** To be called before the update that ends the route is noted, for the route ends with that update. */
    private void endRoute(Route route) {
        route.end = history.size();
        tree.remove(route);
    }

    private static int networkOf(int peer) {
        return peer + 1;
    }

    private static int lengthOf(Route route) {
        return route == null ? NONE : route.prefix.length;
    }

    private static int reverseOf(int relation) {
        switch (relation) {
            case PROVIDES:
                return PROVIDED;
            case PROVIDED:
                return PROVIDES;
            default:
                return relation;
        }
    }

    private static boolean isPeer(int peer) {
        return peer >= 0 && peer < PEERS;
    }

    private static boolean isNetwork(int network) {
        return network >= 1 && network <= NETWORKS;
    }

    private static boolean isAddress(int address) {
        return address >= 0 && address < ADDRESSES;
    }

    private static boolean isPrefix(int address, int length) {
        if (!isAddress(address) || length < 0 || length > BITS) {
            return false;
        }
        int bitsBehind = (1 << (BITS - length)) - 1;
        return (address & bitsBehind) == 0;
    }

    private static boolean isPrefixNumber(int number) {
        return number >= ROOT && number < PREFIX_NUMBERS;
    }

    /** The number of the prefix of this length that has the address; the length is 0 to 8. */
    private static int prefixNumber(int address, int length) {
        return (ADDRESSES + address) >> (BITS - length);
    }

    /** A row of networks; it grows while it is being made, and is never changed as the path of a route. */
    private static final class Path {
        private final int[] networks = new int[MOST_HOPS];
        private int size = 0;

        int size() {
            return size;
        }

        boolean isFull() {
            return size >= MOST_HOPS;
        }

        int networkAt(int place) {
            return place < 0 || place >= size ? NONE : networks[place];
        }

        int origin() {
            return networkAt(size - 1);
        }

        boolean hasLeft(int network) {
            if (origin() == network) {
                return false;
            }
            for (int place = 0; place < size; place++) {
                if (networkAt(place) == network) {
                    return true;
                }
            }
            return false;
        }

        void add(int network) {
            if (!isFull()) {
                networks[size] = network;
                size++;
            }
        }

        void clear() {
            size = 0;
        }

        Path copy() {
            Path path = new Path();
            for (int place = 0; place < size; place++) {
                path.add(networkAt(place));
            }
            return path;
        }

        boolean isLike(Path other) {
            if (size != other.size) {
                return false;
            }
            for (int place = 0; place < size; place++) {
                if (networkAt(place) != other.networkAt(place)) {
                    return false;
                }
            }
            return true;
        }
    }

    /** A block of addresses. It is made only of an address and a length that isPrefix has let through. */
    private static final class Prefix {
        private final int number;
        private final int length;

        Prefix(int address, int length) {
            this.number = prefixNumber(address, length);
            this.length = length;
        }

        boolean has(int address) {
            return prefixNumber(address, length) == number;
        }

        boolean covers(Prefix other) {
            return length <= other.length && other.number >> (other.length - length) == number;
        }
    }

    /** A route, with the numbers of the update that announced it and of the one that ended it. */
    private static final class Route {
        private final int peer;
        private final Prefix prefix;
        private final Path path;
        private final int start;
        // Numbers of updates stay below MOST_UPDATES, so this one says that no update has ended the route.
        private int end = MOST_UPDATES;

        Route(int peer, Prefix prefix, Path path, int start) {
            this.peer = peer;
            this.prefix = prefix;
            this.path = path;
            this.start = start;
        }

        boolean standsAfter(int updateCount) {
            return start < updateCount && updateCount <= end;
        }

        boolean isBetterThan(Route other) {
            if (other == null) {
                return true;
            }
            if (path.size() != other.path.size()) {
                return path.size() < other.path.size();
            }
            return peer < other.peer;
        }

        boolean isFoundBefore(Route other) {
            if (other == null) {
                return true;
            }
            if (prefix.length != other.prefix.length) {
                return prefix.length > other.prefix.length;
            }
            return isBetterThan(other);
        }

        boolean isLike(Route other) {
            return peer == other.peer && path.isLike(other.path);
        }
    }

    /** The routes that stand now. */
    private static final class Tree {
        private final Route[] cells = new Route[PEERS * PREFIX_NUMBERS];
        private final int[] countByPrefix = new int[PREFIX_NUMBERS];
        private final int[] countByPeer = new int[PEERS];

        Route routeOf(int peer, int number) {
            int cell = cellOf(peer, number);
            return cell == NONE ? null : cells[cell];
        }

        void put(Route route) {
            int number = route.prefix.number;
            int cell = cellOf(route.peer, number);
            if (cell != NONE && cells[cell] == null) {
                cells[cell] = route;
                countByPrefix[number]++;
                countByPeer[route.peer]++;
            }
        }

        void remove(Route route) {
            int number = route.prefix.number;
            int cell = cellOf(route.peer, number);
            if (cell != NONE && cells[cell] == route) {
                cells[cell] = null;
                countByPrefix[number]--;
                countByPeer[route.peer]--;
            }
        }

        int countOfPeer(int peer) {
            return isPeer(peer) ? countByPeer[peer] : 0;
        }

        int countPrefixes() {
            int count = 0;
            for (int number = ROOT; number < PREFIX_NUMBERS; number++) {
                if (isThere(number)) {
                    count++;
                }
            }
            return count;
        }

        Route bestOf(int number) {
            Route best = null;
            for (int peer = 0; peer < PEERS; peer++) {
                Route route = routeOf(peer, number);
                if (route != null && route.isBetterThan(best)) {
                    best = route;
                }
            }
            return best;
        }

        int longestLengthFor(int address) {
            int found = NONE;
            for (int length = 0; length <= BITS; length++) {
                if (isThere(prefixNumber(address, length))) {
                    found = length;
                }
            }
            return found;
        }

        /** The longest prefix that is there and shorter than this one, which it covers; NONE without one. */
        int nearestAbove(int number) {
            for (int above = number / 2; above >= ROOT; above /= 2) {
                if (isThere(above)) {
                    return above;
                }
            }
            return NONE;
        }

        int countOrigins(int number) {
            return Integer.bitCount(originBits(number));
        }

        boolean hasOrigin(int number, int origin) {
            return (originBits(number) & (1 << origin)) != 0;
        }

        /** A bit for each origin: the networks 1 to 30 fit into one number. */
        private int originBits(int number) {
            if (!isThere(number)) {
                return 0;
            }
            int bits = 0;
            for (int peer = 0; peer < PEERS; peer++) {
                Route route = routeOf(peer, number);
                if (route != null) {
                    bits |= 1 << route.path.origin();
                }
            }
            return bits;
        }

        private boolean isThere(int number) {
            return isPrefixNumber(number) && countByPrefix[number] > 0;
        }

        private static int cellOf(int peer, int number) {
            return isPeer(peer) && isPrefixNumber(number) ? peer * PREFIX_NUMBERS + number : NONE;
        }
    }

    /** The times of all updates, and all routes that were ever announced. */
    private static final class History {
        private final int[] times = new int[MOST_UPDATES];
        private int updateCount = 0;
        private final Route[] kept = new Route[MOST_UPDATES];
        private int keptCount = 0;
        private final Route[] bestOnce = new Route[PREFIX_NUMBERS];
        private final Route[] bestThen = new Route[PREFIX_NUMBERS];

        int size() {
            return updateCount;
        }

        boolean isFull() {
            return updateCount >= MOST_UPDATES;
        }

        void noteUpdate(int time) {
            if (!isFull()) {
                times[updateCount] = time;
                updateCount++;
            }
        }

        void keep(Route route) {
            if (keptCount < MOST_UPDATES) {
                kept[keptCount] = route;
                keptCount++;
            }
        }

        /** How many updates there were up to and with this time; as time never goes back, they are the first ones. */
        int sizeAt(int time) {
            int count = 0;
            while (count < updateCount && times[count] <= time) {
                count++;
            }
            return count;
        }

        /** The best route for the longest prefix that has the address, after so many updates; null without one. */
        Route routeFor(int address, int updatesThen) {
            Route found = null;
            for (int i = 0; i < keptCount; i++) {
                Route route = kept[i];
                if (route != null && route.standsAfter(updatesThen) && route.prefix.has(address)
                        && route.isFoundBefore(found)) {
                    found = route;
                }
            }
            return found;
        }

        int countUnlike(int updatesOnce, int updatesThen) {
            fillBest(bestOnce, updatesOnce);
            fillBest(bestThen, updatesThen);
            int count = 0;
            for (int number = ROOT; number < PREFIX_NUMBERS; number++) {
                if (areUnlike(bestOnce[number], bestThen[number])) {
                    count++;
                }
            }
            return count;
        }

        private void fillBest(Route[] best, int updatesThen) {
            for (int number = 0; number < PREFIX_NUMBERS; number++) {
                best[number] = null;
            }
            for (int i = 0; i < keptCount; i++) {
                Route route = kept[i];
                if (route == null || !route.standsAfter(updatesThen)) {
                    continue;
                }
                int number = route.prefix.number;
                if (isPrefixNumber(number) && route.isBetterThan(best[number])) {
                    best[number] = route;
                }
            }
        }

        private static boolean areUnlike(Route one, Route another) {
            if (one == null || another == null) {
                return one != another;
            }
            return !one.isLike(another);
        }
    }

    /** What the registry allows: an origin for a prefix, and for longer ones up to a greatest length. */
    private static final class Entry {
        private final Prefix prefix;
        private final int longest;
        private final int origin;

        Entry(Prefix prefix, int longest, int origin) {
            this.prefix = prefix;
            this.longest = longest;
            this.origin = origin;
        }

        boolean isLike(Entry other) {
            return prefix.number == other.prefix.number && longest == other.longest && origin == other.origin;
        }

        boolean concerns(Route route) {
            return prefix.covers(route.prefix);
        }

        /** To be asked of a route that the entry concerns. */
        boolean permits(Route route) {
            return origin == route.path.origin() && longest >= route.prefix.length;
        }
    }

    private static final class Registry {
        private final Entry[] entries = new Entry[MOST_ENTRIES];
        private int size = 0;

        boolean isFull() {
            return size >= MOST_ENTRIES;
        }

        int placeOf(Entry entry) {
            for (int place = 0; place < size; place++) {
                Entry entered = entries[place];
                if (entered != null && entered.isLike(entry)) {
                    return place;
                }
            }
            return NONE;
        }

        void add(Entry entry) {
            if (!isFull()) {
                entries[size] = entry;
                size++;
            }
        }

        /** The last entry takes the place that becomes free: no answer depends on their order. */
        void takeOut(int place) {
            if (place >= 0 && place < size) {
                size--;
                entries[place] = entries[size];
                entries[size] = null;
            }
        }

        int judge(Route route) {
            boolean concerned = false;
            for (int place = 0; place < size; place++) {
                Entry entry = entries[place];
                if (entry == null || !entry.concerns(route)) {
                    continue;
                }
                if (entry.permits(route)) {
                    return VALID;
                }
                concerned = true;
            }
            return concerned ? INVALID : NOT_FOUND;
        }
    }

    private static final class Relations {
        private final int[][] rows = new int[NETWORKS + 1][NETWORKS + 1];

        int between(int network, int other) {
            return isNetwork(network) && isNetwork(other) ? rows[network][other] : STRANGE;
        }

        void put(int network, int other, int relation) {
            if (isNetwork(network) && isNetwork(other)) {
                rows[network][other] = relation;
            }
        }

        int shapeOf(Path path) {
            boolean wentDownOrLevel = false;
            boolean someUnknown = false;
            for (int place = path.size() - 1; place > 0; place--) {
                int here = path.networkAt(place);
                int next = path.networkAt(place - 1);
                if (next == here) {
                    continue;
                }
                int relation = between(next, here);
                if (relation == STRANGE) {
                    someUnknown = true;
                    continue;
                }
                if (wentDownOrLevel && relation != PROVIDED) {
                    return VALLEY;
                }
                if (relation != PROVIDES) {
                    wentDownOrLevel = true;
                }
            }
            return someUnknown ? UNCERTAIN : FREE;
        }
    }
}
