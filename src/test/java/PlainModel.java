import java.util.ArrayList;
import java.util.HashMap;
import java.util.HashSet;
import java.util.List;
import java.util.Map;
import java.util.NoSuchElementException;
import java.util.Set;
import java.util.TreeMap;
import java.util.TreeSet;

/**
 * The document told once more in the plainest way, to compare with: every table is made anew from the row of
 * updates, and prefixes are told by texts of 0 and 1.
 */
final class PlainModel {
    private static final int ANNOUNCE = 0, WITHDRAW = 1, DROP = 2;

    private record Update(int time, int kind, int peer, String prefix, List<Integer> path) { }

    private record Entry(String prefix, int longest, int origin) { }

    private int time = 0;
    private List<Integer> path = new ArrayList<>();
    private final List<Update> updates = new ArrayList<>();
    private final Set<Entry> registry = new HashSet<>();
    private final Map<Integer, Integer> relations = new HashMap<>();

    /** For each prefix its peers' paths, after all updates up to and with this time. */
    private TreeMap<String, TreeMap<Integer, List<Integer>>> tableAt(int until) {
        TreeMap<String, TreeMap<Integer, List<Integer>>> table = new TreeMap<>();
        for (Update u : updates) {
            if (u.time > until) {
                continue;
            }
            if (u.kind == ANNOUNCE) {
                table.computeIfAbsent(u.prefix, k -> new TreeMap<>()).put(u.peer, u.path);
            } else if (u.kind == WITHDRAW) {
                table.get(u.prefix).remove(u.peer);
            } else {
                table.values().forEach(byPeer -> byPeer.remove(u.peer));
            }
            table.values().removeIf(Map::isEmpty);
        }
        return table;
    }

    private TreeMap<Integer, List<Integer>> now(String prefix) {
        return tableAt(time).getOrDefault(prefix, new TreeMap<>());
    }

    private static String bits(int address) {
        StringBuilder text = new StringBuilder();
        for (int bit = 128; bit > 0; bit /= 2) {
            text.append((address & bit) != 0 ? '1' : '0');
        }
        return text.toString();
    }

    private static void needPeer(int peer) {
        if (peer < 0 || peer > 5) {
            throw new IndexOutOfBoundsException();
        }
    }

    private static String needPrefix(int address, int length) {
        if (address < 0 || address > 255 || length < 0 || length > 8 || bits(address).substring(length).contains("1")) {
            throw new IllegalArgumentException();
        }
        return bits(address).substring(0, length);
    }

    private List<Integer> needRoute(int peer, int address, int length) {
        needPeer(peer);
        List<Integer> route = now(needPrefix(address, length)).get(peer);
        if (route == null) {
            throw new NoSuchElementException();
        }
        return route;
    }

    private static void needNetwork(int network) {
        if (network < 1 || network > 30) {
            throw new IllegalArgumentException();
        }
    }

    private void needRoom() {
        if (updates.size() >= 300) {
            throw new IllegalStateException();
        }
    }

    private static int originOf(List<Integer> route) {
        return route.get(route.size() - 1);
    }

    private static int bestOf(TreeMap<Integer, List<Integer>> byPeer) {
        int best = -1;
        for (int peer : byPeer.keySet()) {
            if (best < 0 || byPeer.get(peer).size() < byPeer.get(best).size()) {
                best = peer;
            }
        }
        return best;
    }

    private static String found(TreeMap<String, TreeMap<Integer, List<Integer>>> table, int address) {
        if (address < 0 || address > 255) {
            throw new IndexOutOfBoundsException();
        }
        String longest = null;
        for (String prefix : table.keySet()) {
            if (bits(address).startsWith(prefix) && (longest == null || prefix.length() > longest.length())) {
                longest = prefix;
            }
        }
        return longest;
    }

    private static int unlikeOrigins(TreeMap<Integer, List<Integer>> byPeer) {
        Set<Integer> origins = new TreeSet<>();
        byPeer.values().forEach(route -> origins.add(originOf(route)));
        return origins.size();
    }

    int pass(int ticks) {
        if (ticks < 1 || ticks > 1000) {
            throw new IllegalArgumentException();
        }
        if (time + ticks > 1000000) {
            throw new IllegalStateException();
        }
        return time += ticks;
    }

    int now() {
        return time;
    }

    int hop(int network) {
        needNetwork(network);
        int place = path.indexOf(network);
        if (path.size() == 8 || place >= 0 && path.subList(place, path.size()).stream().anyMatch(n -> n != network)) {
            throw new IllegalStateException();
        }
        path = new ArrayList<>(path);
        path.add(network);
        return path.size();
    }

    int clearPath() {
        int size = path.size();
        path = new ArrayList<>();
        return size;
    }

    boolean announce(int peer, int address, int length) {
        needPeer(peer);
        String prefix = needPrefix(address, length);
        if (path.isEmpty() || path.get(0) != peer + 1) {
            throw new IllegalStateException();
        }
        needRoom();
        boolean had = now(prefix).containsKey(peer);
        updates.add(new Update(time, ANNOUNCE, peer, prefix, path));
        return !had;
    }

    int withdraw(int peer, int address, int length) {
        needRoute(peer, address, length);
        needRoom();
        updates.add(new Update(time, WITHDRAW, peer, needPrefix(address, length), null));
        return routes(peer);
    }

    int drop(int peer) {
        needPeer(peer);
        needRoom();
        int had = routes(peer);
        updates.add(new Update(time, DROP, peer, null, null));
        return had;
    }

    int updates() {
        return updates.size();
    }

    int routes(int peer) {
        needPeer(peer);
        return (int) tableAt(time).values().stream().filter(byPeer -> byPeer.containsKey(peer)).count();
    }

    int prefixes() {
        return tableAt(time).size();
    }

    int pathAt(int peer, int address, int length, int place) {
        needPeer(peer);
        if (place < 0) {
            throw new IndexOutOfBoundsException();
        }
        List<Integer> route = needRoute(peer, address, length);
        return place < route.size() ? route.get(place) : -1;
    }

    int bestPeer(int address, int length) {
        return bestOf(now(needPrefix(address, length)));
    }

    int lookUp(int address) {
        return lookUpAt(time, address);
    }

    int origins(int address, int length) {
        return unlikeOrigins(now(needPrefix(address, length)));
    }

    int contested() {
        return (int) tableAt(time).values().stream().filter(byPeer -> unlikeOrigins(byPeer) > 1).count();
    }

    boolean isHijack(int peer, int address, int length) {
        int origin = originOf(needRoute(peer, address, length));
        TreeMap<String, TreeMap<Integer, List<Integer>>> table = tableAt(time);
        for (int shorter = length - 1; shorter >= 0; shorter--) {
            TreeMap<Integer, List<Integer>> above = table.get(bits(address).substring(0, shorter));
            if (above != null) {
                return above.values().stream().noneMatch(route -> originOf(route) == origin);
            }
        }
        return false;
    }

    boolean allow(int address, int length, int longest, int origin) {
        Entry entry = new Entry(needPrefix(address, length), longest, origin);
        needNetwork(origin);
        if (longest < length || longest > 8) {
            throw new IllegalArgumentException();
        }
        if (registry.remove(entry)) {
            return false;
        }
        if (registry.size() == 20) {
            throw new IllegalStateException();
        }
        return registry.add(entry);
    }

    int verdict(int peer, int address, int length) {
        int origin = originOf(needRoute(peer, address, length));
        List<Entry> covering = registry.stream().filter(e -> needPrefix(address, length).startsWith(e.prefix)).toList();
        if (covering.stream().anyMatch(e -> e.origin == origin && e.longest >= length)) {
            return 1;
        }
        return covering.isEmpty() ? 0 : 2;
    }

    int relate(int network, int other, int relation) {
        needNetwork(network);
        needNetwork(other);
        if (network == other || relation < 0 || relation > 3) {
            throw new IllegalArgumentException();
        }
        int before = relation(network, other);
        relations.put(network * 100 + other, relation);
        relations.put(other * 100 + network, relation == 1 ? 3 : relation == 3 ? 1 : relation);
        return before;
    }

    private int relation(int network, int other) {
        return relations.getOrDefault(network * 100 + other, 0);
    }

    int valley(int peer, int address, int length) {
        List<Integer> route = needRoute(peer, address, length);
        StringBuilder steps = new StringBuilder();
        for (int i = route.size() - 1; i > 0; i--) {
            int here = route.get(i);
            int next = route.get(i - 1);
            if (here != next) {
                steps.append("?uld".charAt(relation(next, here)));
            }
        }
        String known = steps.toString().replace("?", "");
        if (known.matches(".*[dl].*[ul].*")) {
            return 1;
        }
        return known.length() < steps.length() ? 2 : 0;
    }

    int lookUpAt(int then, int address) {
        String prefix = found(tableAt(then), address);
        return prefix == null ? -1 : prefix.length();
    }

    int originAt(int then, int address) {
        TreeMap<String, TreeMap<Integer, List<Integer>>> table = tableAt(then);
        String prefix = found(table, address);
        return prefix == null ? -1 : originOf(table.get(prefix).get(bestOf(table.get(prefix))));
    }

    int changes(int then, int other) {
        Map<String, String> one = bests(then);
        Map<String, String> two = bests(other);
        Set<String> all = new TreeSet<>(one.keySet());
        all.addAll(two.keySet());
        return (int) all.stream().filter(prefix -> !String.valueOf(one.get(prefix)).equals(two.get(prefix))).count();
    }

    private Map<String, String> bests(int then) {
        Map<String, String> bests = new TreeMap<>();
        tableAt(then).forEach((prefix, byPeer) -> bests.put(prefix, bestOf(byPeer) + ":" + byPeer.get(bestOf(byPeer))));
        return bests;
    }
}
