/** Promises 6 to 9. */
public final class UpdatesTest {
    public static void main(String[] args) {
        announce();
        announceEverywhere();
        announceRefuses();
        announceOrderOfExceptions();
        withdraw();
        withdrawRefuses();
        drop();
        fullOfUpdates();
        updates();
        Check.end();
    }

    // Promise 6
    private static void announce() {
        Bgpreplay x = new Bgpreplay();
        Check.path(x, 1, 9);
        Check.due("announce", true, () -> x.announce(0, 64, 2));
        Check.due("announce again", false, () -> x.announce(0, 64, 2));
        Check.due("announce a prefix of the same address", true, () -> x.announce(0, 64, 3));
        x.hop(10);
        Check.due("a later hop leaves the route as it is", -1, () -> x.pathAt(0, 64, 2, 2));
        Check.due("announce in its place", false, () -> x.announce(0, 64, 2));
        Check.due("the new path", 10, () -> x.pathAt(0, 64, 2, 2));
        Check.due("the other route keeps its path", -1, () -> x.pathAt(0, 64, 3, 2));
        Check.due("routes", 2, () -> x.routes(0));
        Check.path(x, 2);
        Check.due("announce of another peer", true, () -> x.announce(1, 64, 2));
        x.withdraw(0, 64, 2);
        Check.path(x, 1);
        Check.due("announce behind withdraw", true, () -> x.announce(0, 64, 2));
        x.drop(0);
        Check.due("announce behind drop", true, () -> x.announce(0, 64, 2));
        Check.due("updates", 9, x::updates);
    }

    private static void announceEverywhere() {
        Bgpreplay x = new Bgpreplay();
        for (int peer = 0; peer < 6; peer++) {
            int p = peer;
            Check.path(x, peer + 1);
            Check.due("announce of peer " + p, true, () -> x.announce(p, 0, 0));
            Check.due("announce of peer " + p, true, () -> x.announce(p, 255, 8));
            Check.due("announce of peer " + p, true, () -> x.announce(p, 128, 1));
            Check.due("announce of peer " + p, true, () -> x.announce(p, 254, 7));
            Check.due("announce of peer " + p, true, () -> x.announce(p, 0, 8));
        }
        Check.due("updates", 30, x::updates);
    }

    private static void announceRefuses() {
        Bgpreplay x = new Bgpreplay();
        Check.stateThrown("announce without a path", () -> x.announce(0, 0, 0));
        Check.path(x, 1, 2);
        for (int peer = 1; peer < 6; peer++) {
            int p = peer;
            Check.stateThrown("announce with another's path", () -> x.announce(p, 0, 0));
        }
        Check.peersChecked("announce", peer -> x.announce(peer, 0, 0));
        Check.prefixesChecked("announce", (address, length) -> x.announce(0, address, length));
        Check.path(x, 7, 1);
        Check.stateThrown("announce with the path of no peer", () -> x.announce(0, 0, 0));
        Check.due("updates", 0, x::updates);
        Check.due("prefixes", 0, x::prefixes);
        Check.due("the path stays", 2, x::clearPath);
    }

    private static void announceOrderOfExceptions() {
        Bgpreplay x = new Bgpreplay();
        Check.indexThrown("no peer, no prefix, no path", () -> x.announce(6, 1, 0));
        Check.indexThrown("no peer, no path", () -> x.announce(-1, 0, 0));
        Check.argumentThrown("no prefix, no path", () -> x.announce(0, 1, 0));
    }

    // Promise 7
    private static void withdraw() {
        Bgpreplay x = new Bgpreplay();
        Check.path(x, 3, 20);
        x.announce(2, 0, 0);
        x.announce(2, 0, 1);
        x.announce(2, 192, 2);
        Check.path(x, 4, 20).announce(3, 0, 1);
        Check.due("withdraw", 2, () -> x.withdraw(2, 0, 1));
        Check.elementThrown("the route is gone", () -> x.pathAt(2, 0, 1, 0));
        Check.due("that of the other peer stays", 4, () -> x.pathAt(3, 0, 1, 0));
        Check.elementThrown("withdraw again", () -> x.withdraw(2, 0, 1));
        Check.due("withdraw", 1, () -> x.withdraw(2, 192, 2));
        Check.due("withdraw of the last", 0, () -> x.withdraw(2, 0, 0));
        Check.due("withdraw of the other", 0, () -> x.withdraw(3, 0, 1));
        Check.due("updates", 8, x::updates);
        Check.due("prefixes", 0, x::prefixes);
    }

    private static void withdrawRefuses() {
        Bgpreplay x = new Bgpreplay();
        Check.path(x, 1).announce(0, 128, 1);
        Check.elementThrown("withdraw of a longer one", () -> x.withdraw(0, 128, 2));
        Check.elementThrown("withdraw of a shorter one", () -> x.withdraw(0, 0, 0));
        Check.elementThrown("withdraw of another one", () -> x.withdraw(0, 0, 1));
        Check.elementThrown("withdraw of another peer", () -> x.withdraw(1, 128, 1));
        Check.peersChecked("withdraw", peer -> x.withdraw(peer, 128, 1));
        Check.indexThrown("no peer, no prefix", () -> x.withdraw(6, 1, 0));
        Check.prefixesChecked("withdraw", (address, length) -> x.withdraw(0, address, length));
        Check.due("updates", 1, x::updates);
        Check.due("routes", 1, () -> x.routes(0));
    }

    // Promise 8
    private static void drop() {
        Bgpreplay x = new Bgpreplay();
        Check.path(x, 6);
        x.announce(5, 0, 0);
        x.announce(5, 255, 8);
        x.announce(5, 0, 8);
        Check.path(x, 5).announce(4, 0, 0);
        Check.due("drop", 3, () -> x.drop(5));
        Check.due("routes", 0, () -> x.routes(5));
        Check.due("routes of another", 1, () -> x.routes(4));
        Check.elementThrown("a dropped route", () -> x.pathAt(5, 0, 0, 0));
        Check.elementThrown("a dropped route", () -> x.pathAt(5, 255, 8, 0));
        Check.elementThrown("a dropped route", () -> x.pathAt(5, 0, 8, 0));
        Check.due("prefixes", 1, x::prefixes);
        Check.due("updates", 5, x::updates);
        Check.due("drop of none", 0, () -> x.drop(5));
        Check.due("drop of none is an update", 6, x::updates);
        Check.peersChecked("drop", x::drop);
        Check.due("updates behind refusals", 6, x::updates);
        Check.due("drop", 1, () -> x.drop(4));
    }

    private static void fullOfUpdates() {
        Bgpreplay x = new Bgpreplay();
        Check.path(x, 1, 2);
        for (int i = 0; i < 150; i++) {
            x.announce(0, i, 8);
        }
        for (int i = 0; i < 149; i++) {
            x.drop(3);
        }
        Check.due("the update 300", false, () -> x.announce(0, 149, 8));
        Check.due("updates", 300, x::updates);
        Check.stateThrown("announce", () -> x.announce(0, 0, 8));
        Check.stateThrown("announce of another prefix", () -> x.announce(0, 0, 0));
        Check.stateThrown("withdraw", () -> x.withdraw(0, 0, 8));
        Check.stateThrown("drop", () -> x.drop(0));
        Check.stateThrown("drop of none", () -> x.drop(3));
        Check.indexThrown("announce of no peer", () -> x.announce(6, 0, 8));
        Check.argumentThrown("announce of no prefix", () -> x.announce(0, 0, 9));
        Check.stateThrown("announce with another's path", () -> x.announce(1, 0, 8));
        Check.indexThrown("withdraw of no peer", () -> x.withdraw(6, 0, 8));
        Check.argumentThrown("withdraw of no prefix", () -> x.withdraw(0, 0, 9));
        Check.elementThrown("withdraw of no route", () -> x.withdraw(0, 200, 8));
        Check.indexThrown("drop of no peer", () -> x.drop(-1));
        Check.due("updates still", 300, x::updates);
        Check.due("routes still", 150, () -> x.routes(0));
        Check.due("prefixes still", 150, x::prefixes);
        Check.due("the table stays", 8, () -> x.lookUp(0));
        Check.due("the table stays as scanned", 8, () -> x.lookUpByScan(149));
        Check.due("changes", 150, () -> x.changes(-1, 0));
        Check.due("time still passes", 3, () -> x.pass(3));
        Check.due("the path is still made", 3, () -> x.hop(3));
    }

    // Promise 9
    private static void updates() {
        Bgpreplay x = new Bgpreplay();
        Check.path(x, 1);
        Check.due("at first", 0, x::updates);
        x.announce(0, 0, 0);
        Check.due("behind announce", 1, x::updates);
        x.announce(0, 0, 0);
        Check.due("behind announce in place", 2, x::updates);
        x.withdraw(0, 0, 0);
        Check.due("behind withdraw", 3, x::updates);
        x.drop(0);
        Check.due("behind drop", 4, x::updates);
        x.pass(1);
        x.clearPath();
        x.relate(1, 2, 1);
        x.allow(0, 0, 0, 1);
        Check.due("other calls are no updates", 4, x::updates);
    }
}
