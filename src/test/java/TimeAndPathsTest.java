/** Promises 1 to 5. */
public final class TimeAndPathsTest {
    public static void main(String[] args) {
        newObject();
        objectsAreApart();
        pass();
        passToTheEnd();
        now();
        hop();
        hopRefuses();
        clearPath();
        Check.end();
    }

    // Promise 1
    private static void newObject() {
        Bgpreplay x = new Bgpreplay();
        Check.due("now", 0, x::now);
        Check.due("updates", 0, x::updates);
        Check.due("prefixes", 0, x::prefixes);
        Check.due("contested", 0, x::contested);
        for (int peer = 0; peer < 6; peer++) {
            int p = peer;
            Check.due("routes", 0, () -> x.routes(p));
        }
        for (int address = 0; address < 256; address += 5) {
            int a = address;
            Check.due("lookUp", -1, () -> x.lookUp(a));
            Check.due("lookUpByScan", -1, () -> x.lookUpByScan(a));
        }
        Check.due("lookUpAt", -1, () -> x.lookUpAt(0, 0));
        Check.due("originAt", -1, () -> x.originAt(0, 0));
        Check.due("bestPeer", -1, () -> x.bestPeer(0, 0));
        Check.due("origins", 0, () -> x.origins(0, 0));
        Check.due("changes", 0, () -> x.changes(Check.LOW, Check.HIGH));
        Check.due("clearPath", 0, x::clearPath);
        Check.due("relate", 0, () -> x.relate(1, 30, 0));
        Check.due("allow", true, () -> x.allow(0, 0, 8, 1));
    }

    private static void objectsAreApart() {
        Bgpreplay x = new Bgpreplay();
        Check.path(x, 1).announce(0, 0, 0);
        x.pass(7);
        x.relate(1, 2, 1);
        x.allow(0, 0, 0, 1);
        Bgpreplay y = new Bgpreplay();
        Check.due("updates of another", 0, y::updates);
        Check.due("now of another", 0, y::now);
        Check.due("clearPath of another", 0, y::clearPath);
        Check.due("relate of another", 0, () -> y.relate(1, 2, 1));
        Check.due("allow of another", true, () -> y.allow(0, 0, 0, 1));
        Check.due("lookUp of another", -1, () -> y.lookUp(3));
    }

    // Promise 2
    private static void pass() {
        Bgpreplay x = new Bgpreplay();
        Check.due("pass(1)", 1, () -> x.pass(1));
        Check.due("pass(1000)", 1001, () -> x.pass(1000));
        for (int ticks : new int[] {0, -1, 1001, Check.LOW, Check.HIGH}) {
            Check.argumentThrown("pass(" + ticks + ")", () -> x.pass(ticks));
        }
        Check.due("now behind refusals", 1001, x::now);
        Check.due("pass(999)", 2000, () -> x.pass(999));
    }

    /** The document promises nothing from call 513 on, but the end of time lies behind it; so does this test. */
    private static void passToTheEnd() {
        Bgpreplay x = new Bgpreplay();
        for (int i = 0; i < 999; i++) {
            x.pass(1000);
        }
        x.pass(999);
        Check.stateThrown("pass(2) at 999999", () -> x.pass(2));
        Check.argumentThrown("pass(0) at 999999", () -> x.pass(0));
        Check.due("pass(1) at 999999", 1000000, () -> x.pass(1));
        Check.stateThrown("pass(1) at 1000000", () -> x.pass(1));
        Check.argumentThrown("pass(1001) at 1000000", () -> x.pass(1001));
        Check.due("now at the end", 1000000, x::now);
    }

    // Promise 3
    private static void now() {
        Bgpreplay x = new Bgpreplay();
        Check.due("now at first", 0, x::now);
        x.pass(5);
        Check.due("now behind pass(5)", 5, x::now);
        Check.due("now again", 5, x::now);
        Check.path(x, 1).announce(0, 0, 0);
        x.drop(0);
        Check.due("now behind updates", 5, x::now);
        x.pass(10);
        Check.due("now behind pass(10)", 15, x::now);
    }

    // Promise 4
    private static void hop() {
        Bgpreplay x = new Bgpreplay();
        Check.due("hop(30)", 1, () -> x.hop(30));
        Check.due("hop(30) side by side", 2, () -> x.hop(30));
        Check.due("hop(1)", 3, () -> x.hop(1));
        Check.stateThrown("hop(30) again", () -> x.hop(30));
        Check.due("hop(1) side by side", 4, () -> x.hop(1));
        Check.due("hop(1) side by side", 5, () -> x.hop(1));
        Check.due("hop(2)", 6, () -> x.hop(2));
        Check.stateThrown("hop(1) again", () -> x.hop(1));
        Check.stateThrown("hop(30) again", () -> x.hop(30));
        Check.due("hop(3)", 7, () -> x.hop(3));
        Check.due("hop(3)", 8, () -> x.hop(3));
        Check.stateThrown("hop(3), the ninth", () -> x.hop(3));
        Check.stateThrown("hop(4), the ninth", () -> x.hop(4));
        Check.due("clearPath", 8, x::clearPath);
        for (int i = 1; i <= 8; i++) {
            Check.due("hop(9)", i, () -> x.hop(9));
        }
        Check.stateThrown("hop(9), the ninth", () -> x.hop(9));
        x.clearPath();
        Check.due("a cleared network comes again", 1, () -> x.hop(30));
        Check.path(x, 5, 6);
        Check.stateThrown("hop(5), the first again", () -> x.hop(5));
        Check.due("nothing was put", 3, () -> x.hop(6));
        Check.due("the row of the path", "[1, 1, 2, 3, 4, 5, 30, 30]", () -> rowOf(1, 1, 2, 3, 4, 5, 30, 30));
    }

    private static String rowOf(int... networks) {
        Bgpreplay x = new Bgpreplay();
        Check.path(x, networks).announce(0, 0, 0);
        int[] row = new int[networks.length];
        for (int place = 0; place < row.length; place++) {
            row[place] = x.pathAt(0, 0, 0, place);
        }
        return java.util.Arrays.toString(row);
    }

    private static void hopRefuses() {
        Bgpreplay x = new Bgpreplay();
        for (int network : Check.NO_NETWORKS) {
            Check.argumentThrown("hop(" + network + ")", () -> x.hop(network));
        }
        Check.due("nothing was put", 0, x::clearPath);
        Check.path(x, 1, 2, 3, 4, 5, 6, 7, 8);
        for (int network : Check.NO_NETWORKS) {
            Check.argumentThrown("hop(" + network + ") on a full path", () -> x.hop(network));
        }
        Check.due("nothing more was put", 8, x::clearPath);
    }

    // Promise 5
    private static void clearPath() {
        Bgpreplay x = new Bgpreplay();
        Check.due("clearPath of an empty one", 0, x::clearPath);
        Check.path(x, 1, 2, 3);
        x.announce(0, 0, 0);
        Check.due("the path stays behind announce", 3, x::clearPath);
        Check.due("clearPath again", 0, x::clearPath);
        Check.stateThrown("announce with the cleared path", () -> x.announce(0, 0, 0));
        Check.due("the route keeps its path", 3, () -> x.pathAt(0, 0, 0, 2));
        Check.due("hop begins anew", 1, () -> x.hop(3));
    }
}
