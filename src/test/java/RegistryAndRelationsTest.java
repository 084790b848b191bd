/** Promises 19 to 22. */
public final class RegistryAndRelationsTest {
    private static final int UP = 1, LEVEL = 2, DOWN = 3, UNKNOWN = 0;

    public static void main(String[] args) {
        allow();
        allowRefuses();
        allowTwenty();
        verdict();
        verdictOfOneEntry();
        verdictRefuses();
        relate();
        relateRefuses();
        valley();
        valleyOfAllSteps();
        valleyRefuses();
        Check.end();
    }

    // Promise 19
    private static void allow() {
        Bgpreplay x = new Bgpreplay();
        Check.due("in", true, () -> x.allow(64, 2, 4, 9));
        Check.due("out", false, () -> x.allow(64, 2, 4, 9));
        Check.due("in again", true, () -> x.allow(64, 2, 4, 9));
        Check.due("of another longest", true, () -> x.allow(64, 2, 5, 9));
        Check.due("of another origin", true, () -> x.allow(64, 2, 4, 10));
        Check.due("of another length", true, () -> x.allow(64, 3, 4, 9));
        Check.due("of another address", true, () -> x.allow(128, 2, 4, 9));
        Check.due("out", false, () -> x.allow(64, 2, 4, 9));
        Check.due("out", false, () -> x.allow(128, 2, 4, 9));
        Check.due("out", false, () -> x.allow(64, 2, 5, 9));
        Check.due("out", false, () -> x.allow(64, 3, 4, 9));
        Check.due("out", false, () -> x.allow(64, 2, 4, 10));
        Check.due("the least", true, () -> x.allow(0, 0, 0, 1));
        Check.due("the greatest", true, () -> x.allow(255, 8, 8, 30));
    }

    private static void allowRefuses() {
        Bgpreplay x = new Bgpreplay();
        Check.prefixesChecked("allow", (address, length) -> x.allow(address, length, 8, 1));
        Check.prefixesChecked("allow", (address, length) -> x.allow(address, length, length, 1));
        for (int origin : Check.NO_NETWORKS) {
            Check.argumentThrown("origin " + origin, () -> x.allow(0, 4, 8, origin));
        }
        for (int longest : new int[] {3, 0, -1, 9, Check.LOW, Check.HIGH}) {
            Check.argumentThrown("longest " + longest, () -> x.allow(0, 4, longest, 1));
        }
        Check.path(x, 1).announce(0, 0, 4);
        Check.due("nothing was entered", 0, () -> x.verdict(0, 0, 4));
    }

    private static void allowTwenty() {
        Bgpreplay x = new Bgpreplay();
        for (int i = 1; i <= 20; i++) {
            int origin = i;
            Check.due("entry " + i, true, () -> x.allow(0, 0, 8, origin));
        }
        Check.stateThrown("the entry 21", () -> x.allow(0, 0, 8, 21));
        Check.argumentThrown("no prefix", () -> x.allow(1, 0, 8, 21));
        Check.argumentThrown("no network", () -> x.allow(0, 0, 8, 31));
        Check.argumentThrown("no longest", () -> x.allow(0, 0, 9, 21));
        Check.due("the first goes out", false, () -> x.allow(0, 0, 8, 1));
        Check.due("another comes in", true, () -> x.allow(0, 0, 8, 21));
        Check.stateThrown("the entry 21", () -> x.allow(0, 0, 8, 1));
        for (int i = 2; i <= 21; i++) {
            int origin = i;
            Check.due("entry " + i + " goes out", false, () -> x.allow(0, 0, 8, origin));
        }
        Check.due("empty again", true, () -> x.allow(0, 0, 8, 2));
    }

    // Promise 20
    private static void verdict() {
        Bgpreplay x = new Bgpreplay();
        Check.path(x, 1, 20);
        x.announce(0, 64, 4);
        x.announce(0, 128, 1);
        Check.due("no entries", Bgpreplay.NOT_FOUND, () -> x.verdict(0, 64, 4));
        x.allow(64, 5, 8, 20);
        Check.due("a longer entry", 0, () -> x.verdict(0, 64, 4));
        x.allow(80, 4, 8, 20);
        Check.due("an entry beside it", 0, () -> x.verdict(0, 64, 4));
        x.allow(64, 4, 4, 19);
        Check.due("another origin", Bgpreplay.INVALID, () -> x.verdict(0, 64, 4));
        x.allow(64, 2, 3, 20);
        Check.due("too long", 2, () -> x.verdict(0, 64, 4));
        x.allow(64, 2, 4, 1);
        Check.due("the beginning is no origin", 2, () -> x.verdict(0, 64, 4));
        x.allow(64, 4, 4, 20);
        Check.due("its own entry", Bgpreplay.VALID, () -> x.verdict(0, 64, 4));
        x.allow(64, 4, 4, 20);
        Check.due("its own entry is out", 2, () -> x.verdict(0, 64, 4));
        x.allow(64, 3, 4, 20);
        Check.due("a covering entry", 1, () -> x.verdict(0, 64, 4));
        Check.due("another prefix", 0, () -> x.verdict(0, 128, 1));
        x.allow(0, 0, 1, 20);
        Check.due("covered by the whole", 1, () -> x.verdict(0, 128, 1));
        Check.path(x, 1, 21).announce(0, 128, 1);
        Check.due("with another path", 2, () -> x.verdict(0, 128, 1));
        Check.path(x, 2, 20);
        x.announce(1, 128, 1);
        x.announce(1, 255, 8);
        x.announce(1, 0, 0);
        Check.due("of another peer", 1, () -> x.verdict(1, 128, 1));
        Check.due("longer than it allows", 2, () -> x.verdict(1, 255, 8));
        Check.due("the whole", 1, () -> x.verdict(1, 0, 0));
        x.allow(0, 0, 8, 20);
        Check.due("up to the greatest length", 1, () -> x.verdict(1, 255, 8));
    }

    private static void verdictOfOneEntry() {
        Bgpreplay x = new Bgpreplay();
        Check.path(x, 1, 20).announce(0, 192, 2);
        x.allow(128, 1, 2, 20);
        Check.due("the one allows it", 1, () -> x.verdict(0, 192, 2));
        x.allow(128, 1, 2, 21);
        Check.due("another entry does not matter", 1, () -> x.verdict(0, 192, 2));
        x.allow(128, 1, 2, 20);
        Check.due("the other one has another origin", 2, () -> x.verdict(0, 192, 2));
        x.allow(128, 1, 2, 21);
        Check.due("no entry", 0, () -> x.verdict(0, 192, 2));
        x.allow(128, 1, 1, 20);
        Check.due("the one is too short", 2, () -> x.verdict(0, 192, 2));
    }

    private static void verdictRefuses() {
        Bgpreplay x = new Bgpreplay();
        Check.path(x, 1).announce(0, 0, 0);
        x.allow(0, 0, 8, 1);
        Check.peersChecked("verdict", peer -> x.verdict(peer, 0, 0));
        Check.indexThrown("no peer, no prefix", () -> x.verdict(-1, 1, 0));
        Check.prefixesChecked("verdict", (address, length) -> x.verdict(0, address, length));
        Check.elementThrown("no route", () -> x.verdict(0, 0, 1));
        Check.elementThrown("no route of the peer", () -> x.verdict(1, 0, 0));
    }

    // Promise 21
    private static void relate() {
        Bgpreplay x = new Bgpreplay();
        int[] reverse = {0, 3, 2, 1};
        Check.due("none before", 0, () -> x.relate(1, 30, 1));
        for (int before = 0; before < 4; before++) {
            for (int relation = 0; relation < 4; relation++) {
                int b = before;
                int r = relation;
                x.relate(1, 30, b);
                Check.due("before " + b, b, () -> x.relate(1, 30, r));
                Check.due("told of the other", reverse[r], () -> x.relate(30, 1, r));
                Check.due("told of the one", reverse[r], () -> x.relate(1, 30, 0));
            }
        }
        x.relate(2, 3, 1);
        Check.due("other networks", 0, () -> x.relate(2, 4, 0));
        Check.due("other networks", 0, () -> x.relate(4, 3, 0));
        Check.due("the same again", 1, () -> x.relate(2, 3, 1));
    }

    private static void relateRefuses() {
        Bgpreplay x = new Bgpreplay();
        x.relate(1, 2, 1);
        for (int network : Check.NO_NETWORKS) {
            Check.argumentThrown("no network " + network, () -> x.relate(network, 2, 2));
            Check.argumentThrown("no other network " + network, () -> x.relate(1, network, 2));
            Check.argumentThrown("neither", () -> x.relate(network, network, 2));
        }
        for (int network : new int[] {1, 2, 30}) {
            Check.argumentThrown("both the same", () -> x.relate(network, network, 0));
        }
        for (int relation : new int[] {-1, 4, Check.LOW, Check.HIGH}) {
            Check.argumentThrown("no relation " + relation, () -> x.relate(1, 2, relation));
        }
        Check.due("nothing was set", 1, () -> x.relate(1, 2, 0));
    }

    // Promise 22
    private static void valley() {
        shape("one network", Bgpreplay.FREE);
        shape("up", Bgpreplay.FREE, UP);
        shape("level", Bgpreplay.FREE, LEVEL);
        shape("down", Bgpreplay.FREE, DOWN);
        shape("unknown", Bgpreplay.UNCERTAIN, UNKNOWN);
        shape("up, level, down", Bgpreplay.FREE, UP, UP, LEVEL, DOWN, DOWN);
        shape("down, up", Bgpreplay.VALLEY, DOWN, UP);
        shape("down, level", Bgpreplay.VALLEY, DOWN, LEVEL);
        shape("level, up", Bgpreplay.VALLEY, LEVEL, UP);
        shape("level, level", Bgpreplay.VALLEY, LEVEL, LEVEL);
        shape("level, down, level", Bgpreplay.VALLEY, LEVEL, DOWN, LEVEL);
        shape("down, unknown, up", Bgpreplay.VALLEY, DOWN, UNKNOWN, UP);
        shape("down, up, unknown", Bgpreplay.VALLEY, DOWN, UP, UNKNOWN);
        shape("unknown, down, up", Bgpreplay.VALLEY, UNKNOWN, DOWN, UP);
        shape("up, unknown, down", Bgpreplay.UNCERTAIN, UP, UNKNOWN, DOWN);
        shape("down, down, down, down, down, down, up", Bgpreplay.VALLEY, DOWN, DOWN, DOWN, DOWN, DOWN, DOWN, UP);
        Bgpreplay x = new Bgpreplay();
        Check.path(x, 1, 1, 9, 9, 9, 10, 10).announce(0, 0, 0);
        x.relate(9, 10, 1);
        Check.due("side by side, half known", Bgpreplay.UNCERTAIN, () -> x.valley(0, 0, 0));
        x.relate(1, 9, 2);
        Check.due("side by side ones are no steps", Bgpreplay.FREE, () -> x.valley(0, 0, 0));
        x.relate(10, 9, 2);
        Check.due("relations of now count", Bgpreplay.VALLEY, () -> x.valley(0, 0, 0));
        Check.path(x, 1, 1, 1).announce(0, 0, 0);
        Check.due("one network three times", Bgpreplay.FREE, () -> x.valley(0, 0, 0));
    }

    /** The steps as they are gone: from the origin to the beginning. */
    private static void shape(String what, int want, int... steps) {
        Bgpreplay x = new Bgpreplay();
        for (int place = 0; place <= steps.length; place++) {
            x.hop(place + 1);
        }
        x.announce(0, 0, 0);
        for (int i = 0; i < steps.length; i++) {
            int here = steps.length + 1 - i;
            x.relate(here - 1, here, steps[i]);
        }
        Check.due(what, want, () -> x.valley(0, 0, 0));
    }

    private static void valleyOfAllSteps() {
        for (int length = 1; length <= 5; length++) {
            for (int code = 0; code < 1 << 2 * length; code++) {
                int[] steps = new int[length];
                for (int i = 0; i < length; i++) {
                    steps[i] = code >> 2 * i & 3;
                }
                shape("steps " + java.util.Arrays.toString(steps), shapeByWords(steps), steps);
            }
        }
    }

    private static int shapeByWords(int[] steps) {
        boolean unknown = false;
        for (int i = 0; i < steps.length; i++) {
            unknown |= steps[i] == UNKNOWN;
            for (int j = i + 1; j < steps.length; j++) {
                if ((steps[i] == DOWN || steps[i] == LEVEL) && (steps[j] == UP || steps[j] == LEVEL)) {
                    return Bgpreplay.VALLEY;
                }
            }
        }
        return unknown ? Bgpreplay.UNCERTAIN : Bgpreplay.FREE;
    }

    private static void valleyRefuses() {
        Bgpreplay x = new Bgpreplay();
        Check.path(x, 1).announce(0, 0, 0);
        Check.peersChecked("valley", peer -> x.valley(peer, 0, 0));
        Check.indexThrown("no peer, no prefix", () -> x.valley(6, 1, 0));
        Check.prefixesChecked("valley", (address, length) -> x.valley(0, address, length));
        Check.elementThrown("no route", () -> x.valley(0, 0, 1));
        Check.elementThrown("no route of the peer", () -> x.valley(1, 0, 0));
    }
}
