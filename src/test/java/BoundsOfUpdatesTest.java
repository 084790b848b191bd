/** The boundary cases of the promises 6 to 9: for each sentence a test of its own. */
public final class BoundsOfUpdatesTest {
    public static void main(String[] args) {
        Check.holds("6: with the path that is being made", BoundsOfUpdatesTest::pathsOfAllSizes);
        Check.holds("6: in place of the one that it has for the prefix", BoundsOfUpdatesTest::inPlace);
        Check.holds("6: Returns true if it had none for the prefix", BoundsOfUpdatesTest::hadNone);
        Check.holds("6: IndexOutOfBoundsException if there is no such peer", BoundsOfUpdatesTest::announceNoPeer);
        Check.holds("6: IllegalArgumentException if there is no such prefix", BoundsOfUpdatesTest::announceNoPrefix);
        Check.holds("6: IllegalStateException if the path does not begin with the network of the peer",
            BoundsOfUpdatesTest::announceOthersPath);
        Check.holds("6: or there are 300 updates", BoundsOfUpdatesTest::announceFull);
        Check.holds("6: of several exceptions the first", BoundsOfUpdatesTest::announceSeveral);
        Check.holds("6: a call that throws changes nothing", BoundsOfUpdatesTest::refusedAnnounce);
        Check.holds("7: Returns how many routes the peer has then", BoundsOfUpdatesTest::withdraw);
        Check.holds("7: IndexOutOfBoundsException if there is no such peer", BoundsOfUpdatesTest::withdrawNoPeer);
        Check.holds("7: IllegalArgumentException if there is no such prefix", BoundsOfUpdatesTest::withdrawNoPrefix);
        Check.holds("7: NoSuchElementException if the peer has no route for the prefix",
            BoundsOfUpdatesTest::withdrawNoRoute);
        Check.holds("7: IllegalStateException if there are 300 updates", BoundsOfUpdatesTest::withdrawFull);
        Check.holds("7: of several exceptions the first", BoundsOfUpdatesTest::withdrawSeveral);
        Check.holds("7: a call that throws changes nothing", BoundsOfUpdatesTest::refusedWithdraw);
        Check.holds("8: all its routes are gone", BoundsOfUpdatesTest::dropAll);
        Check.holds("8: That is one update", BoundsOfUpdatesTest::oneUpdate);
        Check.holds("8: also if it had none", BoundsOfUpdatesTest::dropNone);
        Check.holds("8: Returns how many routes it had", BoundsOfUpdatesTest::dropCounts);
        Check.holds("8: IndexOutOfBoundsException if there is no such peer", BoundsOfUpdatesTest::dropNoPeer);
        Check.holds("8: IllegalStateException if there are 300 updates", BoundsOfUpdatesTest::dropFull);
        Check.holds("8: of several exceptions the first", BoundsOfUpdatesTest::dropSeveral);
        Check.holds("8: a call that throws changes nothing", BoundsOfUpdatesTest::refusedDrop);
        Check.holds("9: Returns how many updates there were", BoundsOfUpdatesTest::updates);
        Check.end();
    }

    /** Announces the first of the 256 prefixes of length 8. */
    private static Bgpreplay announced(int count) {
        Bgpreplay x = new Bgpreplay();
        x.hop(1);
        for (int address = 0; address < count; address++) {
            x.announce(0, address, 8);
        }
        return x;
    }

    private static Bgpreplay dropsOfNone(Bgpreplay x, int count) {
        for (int i = 0; i < count; i++) {
            x.drop(5);
        }
        return x;
    }

    private static void pathsOfAllSizes() {
        Bgpreplay x = new Bgpreplay();
        for (int size = 1; size <= 8; size++) {
            int s = size;
            x.hop(size);
            x.announce(0, 0, s);
            Check.due("the last of " + s, s, () -> x.pathAt(0, 0, s, s - 1));
            Check.due("none behind " + s, -1, () -> x.pathAt(0, 0, s, s));
        }
        for (int size = 1; size <= 8; size++) {
            int s = size;
            Check.due("still the last of " + s, s, () -> x.pathAt(0, 0, s, s - 1));
            Check.due("still none behind " + s, -1, () -> x.pathAt(0, 0, s, s));
        }
    }

    private static void inPlace() {
        Bgpreplay x = new Bgpreplay();
        Check.path(x, 1, 2, 3, 4, 5, 6, 7, 8).announce(0, 0, 0);
        Check.path(x, 1).announce(0, 0, 0);
        Check.due("the shortest in place of the longest", -1, () -> x.pathAt(0, 0, 0, 1));
        Check.path(x, 1, 2, 3, 4, 5, 6, 7, 30).announce(0, 0, 0);
        Check.due("the longest in place of the shortest", 30, () -> x.pathAt(0, 0, 0, 7));
        Check.due("routes", 1, () -> x.routes(0));
        Check.due("origins", 1, () -> x.origins(0, 0));
    }

    private static void hadNone() {
        Bgpreplay x = new Bgpreplay();
        for (int peer = 0; peer <= 5; peer++) {
            int p = peer;
            Check.path(x, p + 1);
            Check.due("the first", true, () -> x.announce(p, 128, 1));
            Check.due("the same again", false, () -> x.announce(p, 128, 1));
            Check.due("a longer one", true, () -> x.announce(p, 128, 8));
            x.withdraw(p, 128, 1);
            Check.due("behind withdraw", true, () -> x.announce(p, 128, 1));
            x.drop(p);
            Check.due("behind drop", true, () -> x.announce(p, 128, 8));
        }
    }

    private static void announceNoPeer() {
        Bgpreplay x = Check.path(new Bgpreplay(), 1);
        Check.peersChecked("announce", peer -> x.announce(peer, 0, 0));
        Check.path(x, 7);
        Check.indexThrown("the peer 6, with the path 7", () -> x.announce(6, 0, 0));
        Check.due("updates", 0, x::updates);
    }

    private static void announceNoPrefix() {
        for (int peer = 0; peer <= 5; peer++) {
            int p = peer;
            Bgpreplay x = Check.path(new Bgpreplay(), p + 1);
            Check.prefixesChecked("announce", (address, length) -> x.announce(p, address, length));
            Check.due("updates", 0, x::updates);
        }
    }

    private static void announceOthersPath() {
        Bgpreplay x = new Bgpreplay();
        Check.stateThrown("the empty path", () -> x.announce(0, 0, 0));
        Check.path(x, 2, 1);
        Check.stateThrown("the network of the peer last", () -> x.announce(0, 0, 0));
        Check.stateThrown("the number of the peer first", () -> x.announce(2, 0, 0));
        Check.path(x, 30);
        Check.stateThrown("a network of no peer", () -> x.announce(5, 0, 0));
        Check.path(x, 6);
        Check.due("its own network", true, () -> x.announce(5, 0, 0));
        x.clearPath();
        Check.stateThrown("the empty path, with a route", () -> x.announce(5, 0, 0));
    }

    private static void announceFull() {
        Bgpreplay x = dropsOfNone(announced(50), 249);
        Check.due("the update 300", true, () -> x.announce(0, 0, 0));
        Check.stateThrown("the update 301", () -> x.announce(0, 128, 1));
        Check.stateThrown("in place of another one", () -> x.announce(0, 0, 0));
        Check.due("updates", 300, x::updates);
    }

    private static void announceSeveral() {
        Bgpreplay x = Story.fullOfUpdates();
        Check.indexThrown("no peer, no prefix, 300 updates", () -> x.announce(6, 0, 9));
        Check.indexThrown("no peer, 300 updates", () -> x.announce(-1, 0, 0));
        Check.argumentThrown("no prefix, 300 updates", () -> x.announce(0, 1, 7));
        Check.argumentThrown("no prefix, another's path, 300 updates", () -> x.announce(1, 0, -1));
        Bgpreplay y = new Bgpreplay();
        Check.indexThrown("no peer, no prefix, no path", () -> y.announce(-1, 256, 8));
        Check.indexThrown("no peer, no path", () -> y.announce(6, 0, 0));
        Check.argumentThrown("no prefix, no path", () -> y.announce(0, 256, 8));
    }

    private static void refusedAnnounce() {
        Check.unchanged(Story::some, x -> {
            Check.indexThrown("no peer", () -> x.announce(6, 64, 2));
            Check.argumentThrown("no prefix", () -> x.announce(0, 65, 2));
            Check.stateThrown("another's path", () -> x.announce(1, 64, 2));
            Check.stateThrown("another's path", () -> x.announce(5, 0, 8));
        });
        Check.unchanged(Story::fullOfUpdates, x -> {
            Check.stateThrown("in place of another one", () -> x.announce(0, 64, 2));
            Check.stateThrown("a new one", () -> x.announce(0, 0, 8));
        });
        Check.unchanged(Story::emptyPath, x -> Check.stateThrown("no path", () -> x.announce(0, 64, 2)));
    }

    private static void withdraw() {
        Bgpreplay x = announced(149);
        Check.path(x, 2).announce(1, 0, 8);
        for (int left = 148; left >= 1; left--) {
            int l = left;
            Check.due("left", l, () -> x.withdraw(0, l, 8));
        }
        Check.due("the last one", 0, () -> x.withdraw(0, 0, 8));
        Check.due("that of another peer stays", 1, () -> x.routes(1));
        Check.due("the last one of the other peer", 0, () -> x.withdraw(1, 0, 8));
        Check.due("updates", 300, x::updates);
    }

    private static void withdrawNoPeer() {
        Bgpreplay x = Story.some();
        Check.peersChecked("withdraw", peer -> x.withdraw(peer, 64, 2));
    }

    private static void withdrawNoPrefix() {
        Bgpreplay x = Story.some();
        Check.prefixesChecked("withdraw", (address, length) -> x.withdraw(0, address, length));
    }

    private static void withdrawNoRoute() {
        Bgpreplay x = Story.some();
        Check.elementThrown("none has one", () -> x.withdraw(0, 0, 8));
        Check.elementThrown("another peer has one", () -> x.withdraw(0, 96, 3));
        Check.elementThrown("a peer without routes", () -> x.withdraw(2, 64, 2));
        Check.elementThrown("a longer one of the address", () -> x.withdraw(0, 64, 3));
        Check.elementThrown("a shorter one that covers it", () -> x.withdraw(0, 0, 0));
        x.withdraw(0, 64, 2);
        Check.elementThrown("withdrawn before", () -> x.withdraw(0, 64, 2));
        x.drop(5);
        Check.elementThrown("dropped before", () -> x.withdraw(5, 0, 0));
    }

    private static void withdrawFull() {
        Bgpreplay x = dropsOfNone(announced(50), 249);
        Check.due("the update 300", 49, () -> x.withdraw(0, 0, 8));
        Check.stateThrown("the update 301", () -> x.withdraw(0, 1, 8));
        Check.due("updates", 300, x::updates);
        Check.due("routes", 49, () -> x.routes(0));
    }

    private static void withdrawSeveral() {
        Bgpreplay x = Story.fullOfUpdates();
        Check.indexThrown("no peer, no prefix, 300 updates", () -> x.withdraw(6, 0, 9));
        Check.indexThrown("no peer, 300 updates", () -> x.withdraw(-1, 64, 2));
        Check.argumentThrown("no prefix, 300 updates", () -> x.withdraw(0, 65, 2));
        Check.elementThrown("no route, 300 updates", () -> x.withdraw(0, 0, 8));
    }

    private static void refusedWithdraw() {
        Check.unchanged(Story::some, x -> {
            Check.indexThrown("no peer", () -> x.withdraw(6, 64, 2));
            Check.argumentThrown("no prefix", () -> x.withdraw(0, 65, 2));
            Check.elementThrown("no route", () -> x.withdraw(2, 64, 2));
        });
        Check.unchanged(Story::fullOfUpdates, x -> {
            Check.stateThrown("300 updates", () -> x.withdraw(0, 64, 2));
            Check.stateThrown("300 updates", () -> x.withdraw(5, 0, 0));
        });
    }

    private static void dropAll() {
        Bgpreplay x = new Bgpreplay();
        for (int peer = 0; peer <= 5; peer++) {
            Check.path(x, peer + 1);
            for (int length = 0; length <= 8; length++) {
                x.announce(peer, 0, length);
                x.announce(peer, 256 - (1 << 8 - length), length);
            }
        }
        for (int peer = 0; peer <= 5; peer++) {
            int p = peer;
            Check.due("drop", 17, () -> x.drop(p));
            Check.due("routes", 0, () -> x.routes(p));
            Check.elementThrown("the whole", () -> x.pathAt(p, 0, 0, 0));
            Check.elementThrown("the last address", () -> x.pathAt(p, 255, 8, 0));
            Check.due("prefixes", p < 5 ? 17 : 0, x::prefixes);
        }
    }

    private static void oneUpdate() {
        Bgpreplay x = announced(256);
        x.drop(0);
        Check.due("updates", 257, x::updates);
    }

    private static void dropNone() {
        Bgpreplay x = new Bgpreplay();
        Check.due("of a new object", 0, () -> x.drop(0));
        Check.due("updates", 1, x::updates);
        Check.due("again", 0, () -> x.drop(0));
        Check.due("updates", 2, x::updates);
        Check.due("changes", 0, () -> x.changes(-1, 0));
    }

    private static void dropCounts() {
        Check.due("none", 0, () -> announced(0).drop(0));
        Check.due("one", 1, () -> announced(1).drop(0));
        Check.due("256", 256, () -> announced(256).drop(0));
        Bgpreplay x = announced(256);
        for (int address = 0; address < 86; address += 2) {
            x.announce(0, address, 7);
        }
        Check.due("as many as can be: 299", 299, () -> x.drop(0));
        Check.due("updates", 300, x::updates);
    }

    private static void dropNoPeer() {
        Bgpreplay x = Story.some();
        Check.peersChecked("drop", x::drop);
    }

    private static void dropFull() {
        Bgpreplay x = dropsOfNone(announced(50), 249);
        Check.due("the update 300", 50, () -> x.drop(0));
        Check.stateThrown("the update 301, of none", () -> x.drop(0));
        Bgpreplay y = dropsOfNone(announced(50), 250);
        Check.stateThrown("the update 301", () -> y.drop(0));
        Check.due("routes", 50, () -> y.routes(0));
    }

    private static void dropSeveral() {
        Bgpreplay x = Story.fullOfUpdates();
        Check.peersChecked("drop, 300 updates", x::drop);
    }

    private static void refusedDrop() {
        Check.unchanged(Story::some, x -> {
            Check.indexThrown("too low", () -> x.drop(-1));
            Check.indexThrown("too high", () -> x.drop(6));
        });
        Check.unchanged(Story::fullOfUpdates, x -> {
            Check.stateThrown("300 updates", () -> x.drop(0));
            Check.stateThrown("300 updates, of none", () -> x.drop(2));
        });
    }

    private static void updates() {
        Bgpreplay x = new Bgpreplay();
        Check.due("none", 0, x::updates);
        dropsOfNone(x, 299);
        Check.due("one less than there can be", 299, x::updates);
        x.drop(5);
        Check.due("as many as there can be", 300, x::updates);
        Check.stateThrown("one more", () -> x.drop(5));
        Check.due("behind a refused call", 300, x::updates);
    }
}
