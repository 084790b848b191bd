/** The boundary cases of the promises 1 to 5: for each sentence a test of its own. */
public final class BoundsOfPathsTest {
    public static void main(String[] args) {
        Check.holds("1: Begins with empty tables", BoundsOfPathsTest::emptyTables);
        Check.holds("1: Begins with an empty registry", BoundsOfPathsTest::emptyRegistry);
        Check.holds("1: Begins with empty relations", BoundsOfPathsTest::emptyRelations);
        Check.holds("1: at time 0", BoundsOfPathsTest::timeZero);
        Check.holds("2: ticks: 1 to 1000", BoundsOfPathsTest::ticks);
        Check.holds("2: Returns the time then", BoundsOfPathsTest::timeThen);
        Check.holds("2: IllegalArgumentException if ticks is out of range", BoundsOfPathsTest::noTicks);
        Check.holds("2: IllegalStateException if the time would be above 1000000", BoundsOfPathsTest::lastTime);
        Check.holds("2: if both apply, the IllegalArgumentException", BoundsOfPathsTest::noTicksAtTheEnd);
        Check.holds("2: a call that throws changes nothing", BoundsOfPathsTest::refusedPass);
        Check.holds("3: Returns the time", BoundsOfPathsTest::now);
        Check.holds("4: Returns how many networks the path has then", BoundsOfPathsTest::hop);
        Check.holds("4: IllegalArgumentException if network is not 1 to 30", BoundsOfPathsTest::noNetwork);
        Check.holds("4: IllegalStateException if the path has 8 networks", BoundsOfPathsTest::hopOnEight);
        Check.holds("4: or has this one and another one behind it", BoundsOfPathsTest::hopAgain);
        Check.holds("4: if both apply, the IllegalArgumentException", BoundsOfPathsTest::noNetworkOnEight);
        Check.holds("4: a call that throws changes nothing", BoundsOfPathsTest::refusedHop);
        Check.holds("5: Makes the path empty", BoundsOfPathsTest::clearPath);
        Check.holds("5: Returns how many networks it had", BoundsOfPathsTest::cleared);
        Check.end();
    }

    private static void emptyTables() {
        Bgpreplay x = new Bgpreplay();
        Check.due("updates", 0, x::updates);
        Check.due("prefixes", 0, x::prefixes);
        Check.due("contested", 0, x::contested);
        for (int peer = 0; peer <= 5; peer++) {
            int p = peer;
            Check.due("routes", 0, () -> x.routes(p));
            Check.elementThrown("the whole", () -> x.pathAt(p, 0, 0, 0));
            Check.elementThrown("an address", () -> x.pathAt(p, 255, 8, 0));
        }
        for (int address = 0; address < 256; address++) {
            int a = address;
            Check.due("lookUp", -1, () -> x.lookUp(a));
        }
        Check.due("changes", 0, () -> x.changes(Check.LOW, Check.HIGH));
        Check.due("lookUpAt", -1, () -> x.lookUpAt(Check.HIGH, 0));
        Check.due("drop", 0, () -> x.drop(0));
    }

    private static void emptyRegistry() {
        Bgpreplay x = new Bgpreplay();
        Check.path(x, 1).announce(0, 255, 8);
        Check.due("verdict", Bgpreplay.NOT_FOUND, () -> x.verdict(0, 255, 8));
        for (int i = 1; i <= 20; i++) {
            int origin = i;
            Check.due("entry " + i, true, () -> x.allow(0, 0, 8, origin));
        }
    }

    private static void emptyRelations() {
        Bgpreplay x = new Bgpreplay();
        for (int network = 1; network <= 30; network++) {
            for (int other = network + 1; other <= 30; other++) {
                int n = network;
                int o = other;
                Check.due("relate " + n + " " + o, Bgpreplay.STRANGE, () -> x.relate(n, o, Bgpreplay.PROVIDES));
            }
        }
    }

    private static void timeZero() {
        Check.due("now", 0, () -> new Bgpreplay().now());
        Check.due("pass(1)", 1, () -> new Bgpreplay().pass(1));
    }

    private static void ticks() {
        for (int ticks : new int[] {1, 2, 500, 999, 1000}) {
            Check.due("pass(" + ticks + ")", ticks, () -> new Bgpreplay().pass(ticks));
        }
    }

    private static void timeThen() {
        Bgpreplay x = new Bgpreplay();
        Check.due("the least", 1, () -> x.pass(1));
        Check.due("the greatest", 1001, () -> x.pass(1000));
        Check.due("the least again", 1002, () -> x.pass(1));
        for (int i = 1; i <= 500; i++) {
            int time = 1002 + 1000 * i;
            Check.due("pass(1000)", time, () -> x.pass(1000));
        }
    }

    private static void noTicks() {
        Bgpreplay x = new Bgpreplay();
        for (int ticks : new int[] {0, -1, -1000, 1001, 1002, 65537, 1000001, Check.LOW, Check.LOW + 1, Check.HIGH}) {
            Check.argumentThrown("pass(" + ticks + ")", () -> x.pass(ticks));
        }
        Check.due("now", 0, x::now);
        x.pass(1);
        Check.argumentThrown("one that would wrap around", () -> x.pass(Check.HIGH));
        Check.argumentThrown("one that would lead below 0", () -> x.pass(-2));
    }

    /** 512 calls lead to 512000 at most: the document names this case, and none of its rows can reach it. */
    private static Bgpreplay atTime(int time) {
        Bgpreplay x = new Bgpreplay();
        for (int i = 0; i < time / 1000; i++) {
            x.pass(1000);
        }
        return x;
    }

    private static void lastTime() {
        Check.due("1000000 itself", 1000000, () -> atTime(999000).pass(1000));
        Check.stateThrown("above it", () -> atTime(1000000).pass(1));
        Check.stateThrown("far above it", () -> atTime(1000000).pass(1000));
        Bgpreplay x = atTime(999000);
        x.pass(1);
        Check.stateThrown("1000001", () -> x.pass(1000));
        Check.due("1000000", 1000000, () -> x.pass(999));
    }

    private static void noTicksAtTheEnd() {
        Bgpreplay x = atTime(1000000);
        for (int ticks : new int[] {0, -1, 1001, Check.LOW, Check.HIGH}) {
            Check.argumentThrown("pass(" + ticks + ")", () -> x.pass(ticks));
        }
    }

    private static void refusedPass() {
        Check.unchanged(Story::some, x -> {
            Check.argumentThrown("too few", () -> x.pass(0));
            Check.argumentThrown("too many", () -> x.pass(1001));
            Check.argumentThrown("below 0", () -> x.pass(-16));
        });
        Bgpreplay x = atTime(1000000);
        Check.stateThrown("at the end", () -> x.pass(1));
        Check.due("now", 1000000, x::now);
    }

    private static void now() {
        Bgpreplay x = new Bgpreplay();
        Check.due("at first", 0, x::now);
        x.pass(1);
        Check.due("behind the least", 1, x::now);
        x.pass(1000);
        Check.due("behind the greatest", 1001, x::now);
        Check.argumentThrown("pass(1001)", () -> x.pass(1001));
        Check.due("behind a refused call", 1001, x::now);
        Bgpreplay last = atTime(1000000);
        Check.due("the last time", 1000000, last::now);
    }

    private static void hop() {
        Bgpreplay x = new Bgpreplay();
        for (int i = 1; i <= 8; i++) {
            int n = i;
            Check.due("hop " + i, n, () -> x.hop(n));
        }
        x.clearPath();
        Check.due("the first again", 1, () -> x.hop(8));
    }

    private static void noNetwork() {
        Bgpreplay x = new Bgpreplay();
        for (int network : Check.NO_NETWORKS) {
            Check.argumentThrown("hop(" + network + ") first", () -> x.hop(network));
        }
        Check.due("the greatest", 1, () -> x.hop(30));
        Check.due("the least", 2, () -> x.hop(1));
        for (int network : Check.NO_NETWORKS) {
            Check.argumentThrown("hop(" + network + ") third", () -> x.hop(network));
        }
    }

    private static void hopOnEight() {
        Bgpreplay x = new Bgpreplay();
        Check.path(x, 1, 2, 3, 4, 5, 6, 7);
        Check.due("the eighth", 8, () -> x.hop(8));
        Check.stateThrown("a new one", () -> x.hop(9));
        Check.stateThrown("the last one again", () -> x.hop(8));
        Check.stateThrown("the first one again", () -> x.hop(1));
        Bgpreplay y = Check.path(new Bgpreplay(), 9, 9, 9, 9, 9, 9, 9, 9);
        Check.stateThrown("one and the same, the ninth time", () -> y.hop(9));
        Check.due("it had", 8, y::clearPath);
        Check.due("it is empty", 1, () -> y.hop(9));
    }

    private static void hopAgain() {
        Bgpreplay x = Check.path(new Bgpreplay(), 30, 1);
        Check.stateThrown("the first behind one other", () -> x.hop(30));
        Check.due("the last side by side", 3, () -> x.hop(1));
        Check.stateThrown("the first behind two of one other", () -> x.hop(30));
        Check.due("one that is new", 4, () -> x.hop(29));
        Check.stateThrown("one of the middle", () -> x.hop(1));
        Check.stateThrown("the first", () -> x.hop(30));
        x.clearPath();
        Check.due("of a path that was cleared", 1, () -> x.hop(1));
        Check.due("of a path that was cleared", 2, () -> x.hop(30));
        Check.due("one that stood in the cleared path", 3, () -> x.hop(29));
    }

    private static void noNetworkOnEight() {
        Bgpreplay x = Story.fullPath();
        for (int network : Check.NO_NETWORKS) {
            Check.argumentThrown("hop(" + network + ")", () -> x.hop(network));
        }
    }

    private static void refusedHop() {
        Check.unchanged(Story::some, x -> {
            Check.argumentThrown("too low", () -> x.hop(0));
            Check.argumentThrown("too high", () -> x.hop(31));
            Check.stateThrown("again", () -> x.hop(1));
            Check.stateThrown("again", () -> x.hop(9));
        });
        Check.unchanged(Story::fullPath, x -> {
            Check.argumentThrown("too high", () -> x.hop(31));
            Check.stateThrown("the ninth", () -> x.hop(30));
            Check.stateThrown("the ninth", () -> x.hop(8));
        });
        Check.unchanged(Story::emptyPath, x -> Check.argumentThrown("too low", () -> x.hop(0)));
    }

    private static void clearPath() {
        Bgpreplay x = Story.fullPath();
        x.clearPath();
        Check.due("empty", 0, x::clearPath);
        Check.stateThrown("announce", () -> x.announce(0, 0, 0));
        Check.due("any network", 1, () -> x.hop(1));
        Check.due("routes keep their paths", 9, () -> x.pathAt(0, 64, 2, 1));
        Check.due("the last network too", 20, () -> x.pathAt(0, 64, 2, 2));
    }

    private static void cleared() {
        Check.due("of a new object", 0, () -> new Bgpreplay().clearPath());
        Check.due("of one", 1, () -> Check.path(new Bgpreplay(), 30).clearPath());
        Check.due("of eight", 8, () -> Story.fullPath().clearPath());
        Check.due("of two alike", 2, () -> Check.path(new Bgpreplay(), 7, 7).clearPath());
        Bgpreplay x = Story.fullPath();
        x.clearPath();
        Check.due("of a cleared one", 0, x::clearPath);
    }
}
