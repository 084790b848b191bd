/** The boundary cases of the promises 10 to 18: for each sentence a test of its own. */
public final class BoundsOfTableTest {
    public static void main(String[] args) {
        Check.holds("10: Returns how many routes a peer has", BoundsOfTableTest::routes);
        Check.holds("10: IndexOutOfBoundsException if there is no such peer", BoundsOfTableTest::routesNoPeer);
        Check.holds("11: Returns how many prefixes are there", BoundsOfTableTest::prefixes);
        Check.holds("12: place: from 0", BoundsOfTableTest::places);
        Check.holds("12: NONE if the path has no such place", BoundsOfTableTest::noPlace);
        Check.holds("12: IndexOutOfBoundsException if there is no such peer", BoundsOfTableTest::pathNoPeer);
        Check.holds("12: or place is below 0", BoundsOfTableTest::placeBelow);
        Check.holds("12: IllegalArgumentException if there is no such prefix", BoundsOfTableTest::pathNoPrefix);
        Check.holds("12: NoSuchElementException if the peer has no route", BoundsOfTableTest::pathNoRoute);
        Check.holds("12: of several exceptions the first", BoundsOfTableTest::pathSeveral);
        Check.holds("13: Returns the peer that has the best route", BoundsOfTableTest::bestPeer);
        Check.holds("13: NONE if the prefix is not there", BoundsOfTableTest::noBestPeer);
        Check.holds("13: IllegalArgumentException if there is no such prefix", BoundsOfTableTest::bestNoPrefix);
        Check.holds("14: Returns the length of the prefix that is found", BoundsOfTableTest::lookUp);
        Check.holds("14: NONE if none is there that has the address", BoundsOfTableTest::lookUpNone);
        Check.holds("14: IndexOutOfBoundsException if there is no such address", BoundsOfTableTest::lookUpNoAddress);
        Check.holds("15: Returns the same", BoundsOfTableTest::lookUpByScan);
        Check.holds("15: NONE if none is there that has the address", BoundsOfTableTest::scanNone);
        Check.holds("15: IndexOutOfBoundsException if there is no such address", BoundsOfTableTest::scanNoAddress);
        Check.holds("16: Returns how many unlike origins", BoundsOfTableTest::origins);
        Check.holds("16: of a prefix that is not there", BoundsOfTableTest::noOrigins);
        Check.holds("16: IllegalArgumentException if there is no such prefix", BoundsOfTableTest::originsNoPrefix);
        Check.holds("17: Returns how many prefixes have unlike origins", BoundsOfTableTest::contested);
        Check.holds("18: there are shorter prefixes that cover its prefix", BoundsOfTableTest::hijackShorter);
        Check.holds("18: no route for the longest one of these", BoundsOfTableTest::hijackLongest);
        Check.holds("18: has its origin", BoundsOfTableTest::hijackOrigin);
        Check.holds("18: IndexOutOfBoundsException if there is no such peer", BoundsOfTableTest::hijackNoPeer);
        Check.holds("18: IllegalArgumentException if there is no such prefix", BoundsOfTableTest::hijackNoPrefix);
        Check.holds("18: NoSuchElementException if the peer has no route", BoundsOfTableTest::hijackNoRoute);
        Check.holds("18: of several exceptions the first", BoundsOfTableTest::hijackSeveral);
        Check.holds("10 to 18: a call that throws changes nothing", BoundsOfTableTest::refused);
        Check.holds("10 to 18: a call that asks changes nothing", BoundsOfTableTest::asked);
        Check.end();
    }

    /** Peer 0 announces 300 prefixes: all of length 8, and the first 44 of length 7. */
    private static Bgpreplay threeHundred() {
        Bgpreplay x = new Bgpreplay();
        x.hop(1);
        for (int address = 0; address < 256; address++) {
            x.announce(0, address, 8);
        }
        for (int address = 0; address < 88; address += 2) {
            x.announce(0, address, 7);
        }
        return x;
    }

    private static void routes() {
        Check.due("none", 0, () -> new Bgpreplay().routes(0));
        Bgpreplay x = threeHundred();
        Check.due("as many as can be", 300, () -> x.routes(0));
        for (int peer = 1; peer <= 5; peer++) {
            int p = peer;
            Check.due("none of another peer", 0, () -> x.routes(p));
        }
        Bgpreplay y = Check.path(new Bgpreplay(), 6);
        y.announce(5, 255, 8);
        Check.due("one of the last peer", 1, () -> y.routes(5));
        y.announce(5, 255, 8);
        Check.due("one, twice announced", 1, () -> y.routes(5));
        y.withdraw(5, 255, 8);
        Check.due("none again", 0, () -> y.routes(5));
    }

    private static void routesNoPeer() {
        Bgpreplay x = Story.some();
        Check.peersChecked("routes", x::routes);
        Check.peersChecked("routes of a new object", peer -> new Bgpreplay().routes(peer));
    }

    private static void prefixes() {
        Check.due("none", 0, () -> new Bgpreplay().prefixes());
        Check.due("as many as can be", 300, () -> threeHundred().prefixes());
        Bgpreplay x = new Bgpreplay();
        for (int peer = 0; peer <= 5; peer++) {
            Check.path(x, peer + 1);
            x.announce(peer, 0, 0);
            x.announce(peer, 255, 8);
            Check.due("two of several peers", 2, x::prefixes);
        }
        for (int peer = 0; peer <= 5; peer++) {
            int p = peer;
            x.withdraw(p, 0, 0);
            Check.due("the whole goes with the last peer", p < 5 ? 2 : 1, x::prefixes);
        }
    }

    private static void places() {
        Bgpreplay x = new Bgpreplay();
        Check.path(x, 6).announce(5, 0, 0);
        Check.due("place 0 of one", 6, () -> x.pathAt(5, 0, 0, 0));
        Check.path(x, 1, 2, 3, 4, 5, 6, 7, 30).announce(0, 255, 8);
        Check.due("place 0 of eight", 1, () -> x.pathAt(0, 255, 8, 0));
        Check.due("place 7 of eight", 30, () -> x.pathAt(0, 255, 8, 7));
    }

    private static void noPlace() {
        Bgpreplay x = new Bgpreplay();
        for (int size = 1; size <= 8; size++) {
            int s = size;
            x.hop(s);
            x.announce(0, 0, 0);
            Check.due("the last of " + s, s, () -> x.pathAt(0, 0, 0, s - 1));
            for (int place : new int[] {s, 8, 9, 256, Check.HIGH}) {
                Check.due("place " + place + " of " + s, -1, () -> x.pathAt(0, 0, 0, place));
            }
        }
    }

    private static void pathNoPeer() {
        Bgpreplay x = Story.some();
        Check.peersChecked("pathAt", peer -> x.pathAt(peer, 64, 2, 0));
    }

    private static void placeBelow() {
        Bgpreplay x = Story.some();
        for (int place : new int[] {-1, -2, -8, -256, Check.LOW}) {
            Check.indexThrown("place " + place, () -> x.pathAt(0, 64, 2, place));
        }
    }

    private static void pathNoPrefix() {
        Bgpreplay x = Story.some();
        Check.prefixesChecked("pathAt", (address, length) -> x.pathAt(0, address, length, 0));
    }

    private static void pathNoRoute() {
        Bgpreplay x = Story.some();
        Check.elementThrown("none has one", () -> x.pathAt(0, 0, 8, 0));
        Check.elementThrown("another peer has one", () -> x.pathAt(0, 96, 3, 0));
        Check.elementThrown("a peer without routes", () -> x.pathAt(2, 64, 2, 0));
        Check.elementThrown("a place that no path has", () -> x.pathAt(2, 64, 2, 8));
        x.drop(5);
        Check.elementThrown("a dropped one", () -> x.pathAt(5, 0, 0, 0));
    }

    private static void pathSeveral() {
        Bgpreplay x = Story.some();
        Check.indexThrown("no peer, no prefix", () -> x.pathAt(6, 65, 2, 0));
        Check.indexThrown("no peer, place below 0", () -> x.pathAt(-1, 64, 2, -1));
        Check.indexThrown("place below 0, no prefix", () -> x.pathAt(0, 65, 2, -1));
        Check.indexThrown("place below 0, no route", () -> x.pathAt(2, 64, 2, -1));
        Check.argumentThrown("no prefix, no place", () -> x.pathAt(2, 65, 2, 8));
    }

    private static void bestPeer() {
        Bgpreplay x = new Bgpreplay();
        Check.path(x, 6, 1, 2, 3, 4, 5, 7, 8).announce(5, 0, 0);
        Check.due("the only one, of eight", 5, () -> x.bestPeer(0, 0));
        Check.path(x, 1, 9, 9, 9, 9, 9, 9, 9).announce(0, 0, 0);
        Check.due("two of eight", 0, () -> x.bestPeer(0, 0));
        Check.path(x, 6, 1, 2, 3, 4, 5, 7).announce(5, 0, 0);
        Check.due("of eight and seven", 5, () -> x.bestPeer(0, 0));
    }

    private static void noBestPeer() {
        Bgpreplay x = Story.some();
        Check.due("a longer one", -1, () -> x.bestPeer(64, 3));
        Check.due("a shorter one", -1, () -> x.bestPeer(0, 1));
        Check.due("one beside it", -1, () -> x.bestPeer(0, 2));
        x.drop(5);
        Check.due("one that was dropped", -1, () -> x.bestPeer(0, 0));
        Check.due("of a new object", -1, () -> new Bgpreplay().bestPeer(0, 0));
    }

    private static void bestNoPrefix() {
        Bgpreplay x = Story.some();
        Check.prefixesChecked("bestPeer", x::bestPeer);
    }

    private static void lookUp() {
        Bgpreplay x = Story.some();
        int[][] wants = {{0, 0}, {63, 0}, {64, 2}, {95, 2}, {96, 3}, {127, 3}, {128, 0}, {254, 0}, {255, 8}};
        for (int[] w : wants) {
            Check.due("lookUp(" + w[0] + ")", w[1], () -> x.lookUp(w[0]));
        }
    }

    private static void lookUpNone() {
        Bgpreplay x = Story.some();
        x.drop(5);
        for (int address : new int[] {0, 63, 128, 254}) {
            Check.due("lookUp(" + address + ")", -1, () -> x.lookUp(address));
        }
        Check.due("of a new object", -1, () -> new Bgpreplay().lookUp(0));
        Check.due("of a new object", -1, () -> new Bgpreplay().lookUp(255));
    }

    private static void lookUpNoAddress() {
        Bgpreplay x = Story.some();
        Check.addressesChecked("lookUp", x::lookUp);
        Check.addressesChecked("lookUp of a new object", address -> new Bgpreplay().lookUp(address));
    }

    private static void lookUpByScan() {
        Bgpreplay x = Story.some();
        Bgpreplay y = Story.some();
        for (int address = 0; address < 256; address++) {
            int a = address;
            Check.same("address " + a, Check.outcome(() -> x.lookUp(a)), Check.outcome(() -> y.lookUpByScan(a)));
        }
    }

    private static void scanNone() {
        Bgpreplay x = Story.some();
        x.drop(5);
        for (int address : new int[] {0, 63, 128, 254}) {
            Check.due("lookUpByScan(" + address + ")", -1, () -> x.lookUpByScan(address));
        }
        Check.due("of a new object", -1, () -> new Bgpreplay().lookUpByScan(0));
        Check.due("of a new object", -1, () -> new Bgpreplay().lookUpByScan(255));
    }

    private static void scanNoAddress() {
        Bgpreplay x = Story.some();
        Check.addressesChecked("lookUpByScan", x::lookUpByScan);
        Check.addressesChecked("lookUpByScan of a new object", address -> new Bgpreplay().lookUpByScan(address));
    }

    private static void origins() {
        Bgpreplay x = new Bgpreplay();
        int[] all = {30, 1, 29, 2, 28, 3};
        for (int peer = 0; peer <= 5; peer++) {
            int p = peer;
            Check.path(x, p + 1, 20).announce(p, 255, 8);
            Check.due("one of " + (p + 1) + " peers", 1, () -> x.origins(255, 8));
        }
        for (int peer = 0; peer <= 5; peer++) {
            int p = peer;
            Check.path(x, p + 1, all[p]).announce(p, 255, 8);
            Check.due("peer by peer another one", p < 5 ? p + 2 : 6, () -> x.origins(255, 8));
        }
    }

    private static void noOrigins() {
        Bgpreplay x = Story.some();
        Check.due("a longer one", 0, () -> x.origins(64, 3));
        Check.due("a shorter one", 0, () -> x.origins(0, 1));
        x.drop(5);
        Check.due("one that was dropped", 0, () -> x.origins(0, 0));
        Check.due("of a new object", 0, () -> new Bgpreplay().origins(0, 0));
    }

    private static void originsNoPrefix() {
        Bgpreplay x = Story.some();
        Check.prefixesChecked("origins", x::origins);
    }

    private static void contested() {
        Check.due("none at first", 0, () -> new Bgpreplay().contested());
        Check.due("none of one peer", 0, () -> threeHundred().contested());
        Bgpreplay x = new Bgpreplay();
        for (int peer = 0; peer <= 5; peer++) {
            int p = peer;
            Check.path(x, p + 1, 20);
            x.announce(p, 0, 0);
            x.announce(p, 255, 8);
            Check.due("none of one origin", 0, x::contested);
        }
        Check.path(x, 6, 21).announce(5, 255, 8);
        Check.due("the last address", 1, x::contested);
        x.announce(5, 0, 0);
        Check.due("and the whole", 2, x::contested);
        x.withdraw(5, 255, 8);
        Check.due("the whole alone", 1, x::contested);
        Bgpreplay y = new Bgpreplay();
        for (int peer = 0; peer <= 1; peer++) {
            Check.path(y, peer + 1);
            for (int address = 0; address < 150; address++) {
                y.announce(peer, address, 8);
            }
        }
        Check.due("as many as can be", 150, y::contested);
    }

    private static void hijackShorter() {
        Bgpreplay x = new Bgpreplay();
        Check.path(x, 1, 20).announce(0, 255, 8);
        Check.due("none is there", false, () -> x.isHijack(0, 255, 8));
        Check.path(x, 2, 21);
        x.announce(1, 255, 8);
        Check.due("its own prefix is not shorter", false, () -> x.isHijack(0, 255, 8));
        x.announce(1, 252, 7);
        x.announce(1, 0, 1);
        Check.due("those beside it do not cover it", false, () -> x.isHijack(0, 255, 8));
        x.announce(1, 254, 7);
        Check.due("one bit shorter", true, () -> x.isHijack(0, 255, 8));
        x.withdraw(1, 254, 7);
        Check.due("gone", false, () -> x.isHijack(0, 255, 8));
        x.announce(1, 0, 0);
        Check.due("the whole", true, () -> x.isHijack(0, 255, 8));
        Check.path(x, 1, 20).announce(0, 0, 0);
        x.withdraw(1, 0, 0);
        Check.due("nothing is shorter than the whole", false, () -> x.isHijack(0, 0, 0));
        Check.path(x, 2, 21).announce(1, 0, 0);
        Check.due("nothing is shorter than the whole", false, () -> x.isHijack(1, 0, 0));
    }

    private static void hijackLongest() {
        Bgpreplay x = new Bgpreplay();
        Check.path(x, 1, 20).announce(0, 255, 8);
        for (int length = 0; length < 8; length++) {
            int l = length;
            int origin = 20 + l % 2;
            Check.path(x, 2, origin).announce(1, 255 << 8 - l & 255, l);
            Check.due("the longest is " + l, origin != 20, () -> x.isHijack(0, 255, 8));
        }
    }

    private static void hijackOrigin() {
        Bgpreplay x = new Bgpreplay();
        Check.path(x, 1, 30).announce(0, 192, 2);
        for (int peer = 0; peer <= 4; peer++) {
            Check.path(x, peer + 1).announce(peer, 128, 1);
        }
        Check.due("five other origins", true, () -> x.isHijack(0, 192, 2));
        Check.path(x, 6, 7, 8, 30).announce(5, 128, 1);
        Check.due("one of six has it", false, () -> x.isHijack(0, 192, 2));
        Check.path(x, 6, 30, 7).announce(5, 128, 1);
        Check.due("not as the last one", true, () -> x.isHijack(0, 192, 2));
        Check.path(x, 1, 30).announce(0, 128, 1);
        Check.due("a route of the same peer has it", false, () -> x.isHijack(0, 192, 2));
    }

    private static void hijackNoPeer() {
        Bgpreplay x = Story.some();
        Check.peersChecked("isHijack", peer -> x.isHijack(peer, 64, 2));
    }

    private static void hijackNoPrefix() {
        Bgpreplay x = Story.some();
        Check.prefixesChecked("isHijack", (address, length) -> x.isHijack(0, address, length));
    }

    private static void hijackNoRoute() {
        Bgpreplay x = Story.some();
        Check.elementThrown("none has one", () -> x.isHijack(0, 0, 8));
        Check.elementThrown("another peer has one", () -> x.isHijack(0, 96, 3));
        Check.elementThrown("a peer without routes", () -> x.isHijack(2, 64, 2));
        x.drop(1);
        Check.elementThrown("a dropped one", () -> x.isHijack(1, 96, 3));
    }

    private static void hijackSeveral() {
        Bgpreplay x = Story.some();
        Check.indexThrown("no peer, no prefix", () -> x.isHijack(6, 65, 2));
        Check.indexThrown("no peer, no prefix", () -> x.isHijack(-1, 64, 9));
        Check.argumentThrown("no prefix of a peer without routes", () -> x.isHijack(2, 65, 2));
    }

    private static void refused() {
        Check.unchanged(Story::some, x -> {
            Check.indexThrown("routes", () -> x.routes(6));
            Check.indexThrown("pathAt", () -> x.pathAt(6, 64, 2, 0));
            Check.indexThrown("pathAt", () -> x.pathAt(0, 64, 2, -1));
            Check.argumentThrown("pathAt", () -> x.pathAt(0, 65, 2, 0));
            Check.elementThrown("pathAt", () -> x.pathAt(2, 64, 2, 0));
            Check.argumentThrown("bestPeer", () -> x.bestPeer(65, 2));
            Check.indexThrown("lookUp", () -> x.lookUp(256));
            Check.indexThrown("lookUpByScan", () -> x.lookUpByScan(-1));
            Check.argumentThrown("origins", () -> x.origins(0, 9));
            Check.indexThrown("isHijack", () -> x.isHijack(-1, 64, 2));
            Check.argumentThrown("isHijack", () -> x.isHijack(0, 64, -1));
            Check.elementThrown("isHijack", () -> x.isHijack(2, 64, 2));
        });
    }

    private static void asked() {
        Check.unchanged(Story::some, x -> {
            Check.due("routes", 2, () -> x.routes(0));
            Check.due("prefixes", 4, x::prefixes);
            Check.due("pathAt", 1, () -> x.pathAt(0, 64, 2, 0));
            Check.due("bestPeer", 1, () -> x.bestPeer(64, 2));
            Check.due("lookUp", 2, () -> x.lookUp(64));
            Check.due("lookUpByScan", 2, () -> x.lookUpByScan(64));
            Check.due("origins", 2, () -> x.origins(64, 2));
            Check.due("contested", 1, x::contested);
            Check.due("isHijack", true, () -> x.isHijack(0, 255, 8));
        });
    }
}
