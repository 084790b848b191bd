/** The boundary cases that "The public face" and "Terms" name: for each sentence a test of its own. */
public final class BoundsOfTermsTest {
    public static void main(String[] args) {
        Check.holds("An object is used for at most 512 calls", BoundsOfTermsTest::lastCalls);
        Check.holds("Addresses are numbers of 8 bits, 0 to 255", BoundsOfTermsTest::addresses);
        Check.holds("A length, 0 to 8", BoundsOfTermsTest::lengths);
        Check.holds("It has all addresses whose first bits are those of the address", BoundsOfTermsTest::firstBits);
        Check.holds("The other bits of the address must be 0", BoundsOfTermsTest::otherBits);
        Check.holds("A prefix covers another one if it has all its addresses", BoundsOfTermsTest::covers);
        Check.holds("It covers itself", BoundsOfTermsTest::coversItself);
        Check.holds("Networks are numbered 1 to 30", BoundsOfTermsTest::networks);
        Check.holds("There are the peers 0 to 5", BoundsOfTermsTest::peers);
        Check.holds("The peer p belongs to the network p + 1", BoundsOfTermsTest::networksOfPeers);
        Check.holds("A path is a row of 1 to 8 networks: 1", BoundsOfTermsTest::pathOfOne);
        Check.holds("A path is a row of 1 to 8 networks: 8", BoundsOfTermsTest::pathOfEight);
        Check.holds("A path is a row of 1 to 8 networks: not 0", BoundsOfTermsTest::pathOfNone);
        Check.holds("A path begins with the network of the peer", BoundsOfTermsTest::beginning);
        Check.holds("The last one is the origin", BoundsOfTermsTest::last);
        Check.holds("No network comes again behind another one", BoundsOfTermsTest::notAgain);
        Check.holds("It may be there several times side by side", BoundsOfTermsTest::sideBySide);
        Check.holds("The path is empty at first", BoundsOfTermsTest::emptyAtFirst);
        Check.holds("Calls that announce routes use it as it is, and it stays", BoundsOfTermsTest::pathStays);
        Check.holds("Each peer has at most one route for each prefix", BoundsOfTermsTest::oneRoute);
        Check.holds("A prefix is there if a peer has a route for it", BoundsOfTermsTest::isThere);
        Check.holds("The best route has the fewest networks in its path", BoundsOfTermsTest::fewest);
        Check.holds("Each counted as often as it is there", BoundsOfTermsTest::countedAsOften);
        Check.holds("Of several the one of the lowest peer", BoundsOfTermsTest::lowestPeer);
        Check.holds("An address is looked up by the longest prefix", BoundsOfTermsTest::longest);
        Check.holds("Time is a number, 0 at first", BoundsOfTermsTest::timeAtFirst);
        Check.holds("Updates are kept with their time, in their order", BoundsOfTermsTest::order);
        Check.holds("There are at most 300 updates", BoundsOfTermsTest::mostUpdates);
        Check.holds("All updates up to and with this time", BoundsOfTermsTest::upToAndWith);
        Check.holds("Make of an empty table", BoundsOfTermsTest::emptyTable);
        Check.holds("Longer ones up to a greatest length", BoundsOfTermsTest::greatestLength);
        Check.holds("There are at most 20 entries", BoundsOfTermsTest::mostEntries);
        Check.holds("VALID if an entry has its origin", BoundsOfTermsTest::valid);
        Check.holds("INVALID if the prefix of some entry covers that of the route", BoundsOfTermsTest::invalid);
        Check.holds("Otherwise NOT_FOUND", BoundsOfTermsTest::notFound);
        Check.holds("Two networks have no relation", BoundsOfTermsTest::noRelation);
        Check.holds("From its origin to its beginning", BoundsOfTermsTest::direction);
        Check.holds("From a network to the next, unlike one", BoundsOfTermsTest::unlikeOnes);
        Check.holds("A step that is up or level behind one that is down or level", BoundsOfTermsTest::valleys);
        Check.holds("Steps that are unknown being left out", BoundsOfTermsTest::unknownSteps);
        Check.end();
    }

    private static void lastCalls() {
        Bgpreplay x = new Bgpreplay();
        x.hop(1);
        for (int i = 0; i < 256; i++) {
            x.announce(0, i, 8);
        }
        for (int i = 0; i < 44; i++) {
            x.drop(1);
        }
        for (int i = 0; i < 207; i++) {
            x.pass(1000);
        }
        Check.due("call 509", 256, () -> x.changes(-1, 0));
        Check.due("call 510", 8, () -> x.lookUp(255));
        Check.stateThrown("call 511", () -> x.withdraw(0, 255, 8));
        Check.due("call 512", 208000, () -> x.pass(1000));
    }

    private static void addresses() {
        Bgpreplay x = new Bgpreplay();
        x.hop(1);
        Check.due("the least", true, () -> x.announce(0, 0, 8));
        Check.due("the greatest", true, () -> x.announce(0, 255, 8));
        Check.due("the least is found", 8, () -> x.lookUp(0));
        Check.due("the greatest is found", 8, () -> x.lookUp(255));
        Check.indexThrown("below the least", () -> x.lookUp(-1));
        Check.indexThrown("above the greatest", () -> x.lookUp(256));
        Check.argumentThrown("a prefix below the least", () -> x.announce(0, -1, 8));
        Check.argumentThrown("a prefix above the greatest", () -> x.announce(0, 256, 8));
        Check.indexThrown("256 is not 0 again", () -> x.lookUpByScan(256));
        Check.indexThrown("-1 is not 255 again", () -> x.lookUpByScan(-1));
    }

    private static void lengths() {
        Bgpreplay x = new Bgpreplay();
        x.hop(1);
        for (int length = 0; length <= 8; length++) {
            int l = length;
            Check.due("length " + l, true, () -> x.announce(0, 0, l));
        }
        for (int length : new int[] {-1, 9, 32, 40, -24, -32, Check.LOW, Check.HIGH}) {
            Check.argumentThrown("length " + length, () -> x.announce(0, 0, length));
        }
        Check.due("prefixes", 9, x::prefixes);
    }

    private static void firstBits() {
        for (int length = 0; length <= 8; length++) {
            int blockSize = 1 << 8 - length;
            for (int address : new int[] {0, 0b10110101 & -blockSize, 256 - blockSize}) {
                block(address, length, blockSize);
            }
        }
    }

    private static void block(int address, int length, int blockSize) {
        Bgpreplay x = new Bgpreplay();
        x.hop(1);
        x.announce(0, address, length);
        String what = " address of " + address + "/" + length;
        Check.due("the first" + what, length, () -> x.lookUp(address));
        Check.due("the last" + what, length, () -> x.lookUp(address + blockSize - 1));
        Check.due("the first" + what, length, () -> x.lookUpByScan(address));
        Check.due("the last" + what, length, () -> x.lookUpByScan(address + blockSize - 1));
        if (address > 0) {
            Check.due("before the first" + what, -1, () -> x.lookUp(address - 1));
            Check.due("before the first" + what, -1, () -> x.lookUpByScan(address - 1));
        }
        if (address + blockSize < 256) {
            Check.due("behind the last" + what, -1, () -> x.lookUp(address + blockSize));
            Check.due("behind the last" + what, -1, () -> x.lookUpByScan(address + blockSize));
        }
    }

    private static void otherBits() {
        for (int length = 0; length <= 8; length++) {
            Bgpreplay x = new Bgpreplay();
            int l = length;
            for (int address = 0; address < 256; address++) {
                int a = address;
                if (a % (1 << 8 - l) == 0) {
                    Check.due("prefix " + a + "/" + l, -1, () -> x.bestPeer(a, l));
                } else {
                    Check.argumentThrown("no prefix " + a + "/" + l, () -> x.bestPeer(a, l));
                }
            }
        }
    }

    private static void covers() {
        int[][] covered = {{64, 2}, {64, 3}, {96, 3}, {64, 8}, {127, 8}};
        int[][] others = {{0, 0}, {0, 1}, {0, 2}, {128, 2}, {63, 8}, {128, 8}, {192, 3}};
        Bgpreplay x = new Bgpreplay();
        x.hop(1);
        x.allow(64, 2, 2, 30);
        for (int[] p : covered) {
            x.announce(0, p[0], p[1]);
            Check.due("64/2 covers " + p[0] + "/" + p[1], Bgpreplay.INVALID, () -> x.verdict(0, p[0], p[1]));
        }
        for (int[] p : others) {
            x.announce(0, p[0], p[1]);
            Check.due("64/2 and " + p[0] + "/" + p[1], Bgpreplay.NOT_FOUND, () -> x.verdict(0, p[0], p[1]));
        }
    }

    private static void coversItself() {
        for (int length = 0; length <= 8; length++) {
            Bgpreplay x = new Bgpreplay();
            int l = length;
            x.hop(1);
            x.announce(0, 0, l);
            x.allow(0, l, l, 1);
            Check.due("0/" + l, Bgpreplay.VALID, () -> x.verdict(0, 0, l));
        }
    }

    private static void networks() {
        Bgpreplay x = new Bgpreplay();
        for (int network = 1; network <= 30; network++) {
            int n = network;
            Check.due("hop(" + n + ")", 1, () -> Check.path(x).hop(n));
            Check.due("origin " + n, true, () -> x.allow(128, 1, 8, n));
            Check.due("out again", false, () -> x.allow(128, 1, 8, n));
            Check.due("relate", 0, () -> x.relate(n, 31 - n, 0));
        }
        x.clearPath();
        for (int network : Check.NO_NETWORKS) {
            Check.argumentThrown("hop(" + network + ")", () -> x.hop(network));
            Check.argumentThrown("origin " + network, () -> x.allow(128, 1, 8, network));
            Check.argumentThrown("relate " + network, () -> x.relate(network, 5, 0));
            Check.argumentThrown("relate to " + network, () -> x.relate(5, network, 0));
        }
    }

    private static void peers() {
        Bgpreplay x = new Bgpreplay();
        for (int peer = 0; peer <= 5; peer++) {
            int p = peer;
            Check.due("routes(" + p + ")", 0, () -> x.routes(p));
            Check.due("drop(" + p + ")", 0, () -> x.drop(p));
        }
        Check.peersChecked("routes", x::routes);
        Check.peersChecked("drop", x::drop);
        Check.due("updates", 6, x::updates);
    }

    private static void networksOfPeers() {
        Bgpreplay x = new Bgpreplay();
        for (int network = 1; network <= 30; network++) {
            Check.path(x, network);
            for (int peer = 0; peer <= 5; peer++) {
                int p = peer;
                if (network == p + 1) {
                    Check.due("its network " + network, true, () -> x.announce(p, 0, 0));
                } else {
                    Check.stateThrown("peer " + p + ", network " + network, () -> x.announce(p, 0, 0));
                }
            }
        }
    }

    private static void pathOfOne() {
        Bgpreplay x = new Bgpreplay();
        x.hop(6);
        Check.due("announce", true, () -> x.announce(5, 0, 0));
        Check.due("the first network", 6, () -> x.pathAt(5, 0, 0, 0));
        Check.due("no second one", -1, () -> x.pathAt(5, 0, 0, 1));
    }

    private static void pathOfEight() {
        Bgpreplay x = new Bgpreplay();
        int[] row = {1, 30, 2, 29, 3, 28, 4, 27};
        for (int i = 0; i < 8; i++) {
            int n = i;
            Check.due("hop " + (n + 1), n + 1, () -> x.hop(row[n]));
        }
        Check.stateThrown("the ninth", () -> x.hop(26));
        Check.due("announce", true, () -> x.announce(0, 0, 0));
        Check.due("the eighth", 27, () -> x.pathAt(0, 0, 0, 7));
        Check.due("no ninth", -1, () -> x.pathAt(0, 0, 0, 8));
    }

    private static void pathOfNone() {
        Bgpreplay x = new Bgpreplay();
        for (int peer = 0; peer <= 5; peer++) {
            int p = peer;
            Check.stateThrown("announce", () -> x.announce(p, 0, 0));
        }
        x.hop(1);
        x.clearPath();
        Check.stateThrown("announce behind clearPath", () -> x.announce(0, 0, 0));
    }

    private static void beginning() {
        Bgpreplay x = new Bgpreplay();
        Check.path(x, 2, 1);
        Check.stateThrown("the network of the peer stands last", () -> x.announce(0, 0, 0));
        Check.due("that of the other one stands first", true, () -> x.announce(1, 0, 0));
        Check.due("place 0", 2, () -> x.pathAt(1, 0, 0, 0));
    }

    private static void last() {
        Bgpreplay x = new Bgpreplay();
        int[] row = {1, 2, 3, 4, 5, 6, 7, 8};
        for (int i = 0; i < 8; i++) {
            int origin = row[i];
            x.hop(origin);
            x.announce(0, 0, 0);
            Check.due("a path of " + (i + 1), origin, () -> x.originAt(0, 0));
        }
    }

    private static void notAgain() {
        Bgpreplay x = new Bgpreplay();
        for (int network : new int[] {1, 2, 3, 4, 5, 6, 7}) {
            x.hop(network);
        }
        for (int network : new int[] {1, 2, 3, 4, 5, 6}) {
            Check.stateThrown("hop(" + network + ") again", () -> x.hop(network));
        }
        Check.due("the last one again", 8, () -> x.hop(7));
    }

    private static void sideBySide() {
        Bgpreplay x = new Bgpreplay();
        for (int i = 1; i <= 8; i++) {
            Check.due("hop " + i, i, () -> x.hop(1));
        }
        Check.due("announce", true, () -> x.announce(0, 0, 0));
        for (int i = 0; i < 8; i++) {
            int place = i;
            Check.due("place " + i, 1, () -> x.pathAt(0, 0, 0, place));
        }
    }

    private static void emptyAtFirst() {
        Check.due("clearPath", 0, () -> new Bgpreplay().clearPath());
        Check.due("hop", 1, () -> new Bgpreplay().hop(30));
        Check.stateThrown("announce", () -> new Bgpreplay().announce(0, 0, 0));
    }

    private static void pathStays() {
        Bgpreplay x = new Bgpreplay();
        Check.path(x, 1, 2).announce(0, 0, 0);
        Check.due("announce again", true, () -> x.announce(0, 0, 1));
        Check.due("it grows on", 3, () -> x.hop(3));
        Check.due("not in the route", -1, () -> x.pathAt(0, 0, 0, 2));
        Check.due("it had", 3, x::clearPath);
        Check.path(x, 30, 29, 28);
        Check.due("the first in the route", 1, () -> x.pathAt(0, 0, 0, 0));
        Check.due("the second in the route", 2, () -> x.pathAt(0, 0, 1, 1));
        Check.due("the origin then", 2, () -> x.originAt(0, 0));
    }

    private static void oneRoute() {
        Bgpreplay x = new Bgpreplay();
        x.hop(1);
        for (int i = 0; i < 8; i++) {
            x.announce(0, 0, 0);
        }
        Check.due("routes", 1, () -> x.routes(0));
        Check.due("withdraw", 0, () -> x.withdraw(0, 0, 0));
        Check.due("prefixes", 0, x::prefixes);
        Check.elementThrown("withdraw again", () -> x.withdraw(0, 0, 0));
    }

    private static void isThere() {
        Bgpreplay x = new Bgpreplay();
        for (int peer = 0; peer <= 5; peer++) {
            Check.path(x, peer + 1).announce(peer, 255, 8);
        }
        Check.due("of six peers", 1, x::prefixes);
        for (int peer = 0; peer <= 4; peer++) {
            x.withdraw(peer, 255, 8);
            Check.due("of fewer", 8, () -> x.lookUp(255));
        }
        Check.due("of the last one", 1, x::prefixes);
        x.withdraw(5, 255, 8);
        Check.due("of none", 0, x::prefixes);
        Check.due("of none", -1, () -> x.lookUp(255));
    }

    private static void fewest() {
        Bgpreplay x = new Bgpreplay();
        Check.path(x, 1, 30, 29, 28, 27, 26, 25, 24).announce(0, 0, 0);
        Check.due("of 8", 0, () -> x.bestPeer(0, 0));
        Check.path(x, 6, 30, 29, 28, 27, 26, 25).announce(5, 0, 0);
        Check.due("of 8 and 7", 5, () -> x.bestPeer(0, 0));
        Check.path(x, 3, 4).announce(2, 0, 0);
        Check.path(x, 5).announce(4, 0, 0);
        Check.due("of 8, 7, 2 and 1", 4, () -> x.bestPeer(0, 0));
    }

    private static void countedAsOften() {
        Bgpreplay x = new Bgpreplay();
        Check.path(x, 1, 1, 1).announce(0, 0, 0);
        Check.path(x, 2, 9).announce(1, 0, 0);
        Check.due("one network three times, two once", 1, () -> x.bestPeer(0, 0));
        Check.path(x, 2, 9, 9).announce(1, 0, 0);
        Check.due("three and three", 0, () -> x.bestPeer(0, 0));
    }

    private static void lowestPeer() {
        Bgpreplay x = new Bgpreplay();
        for (int peer = 5; peer >= 0; peer--) {
            int p = peer;
            Check.path(x, p + 1, 30).announce(p, 0, 0);
            Check.due("of several", p, () -> x.bestPeer(0, 0));
        }
        for (int peer = 0; peer < 5; peer++) {
            int p = peer;
            x.drop(p);
            Check.due("of fewer", p + 1, () -> x.bestPeer(0, 0));
        }
    }

    private static void longest() {
        Bgpreplay x = new Bgpreplay();
        x.hop(1);
        for (int length = 8; length >= 0; length--) {
            int l = length;
            x.announce(0, 255 << 8 - l & 255, l);
            Check.due("with " + l, 8, () -> x.lookUp(255));
            Check.due("with " + l, 8, () -> x.lookUpByScan(255));
        }
        for (int length = 8; length >= 0; length--) {
            int l = length;
            x.withdraw(0, 255 << 8 - l & 255, l);
            Check.due("without " + l, l - 1, () -> x.lookUp(255));
            Check.due("without " + l, l - 1, () -> x.lookUpByScan(255));
        }
    }

    private static void timeAtFirst() {
        Bgpreplay x = new Bgpreplay();
        Check.due("now", 0, x::now);
        Check.path(x, 1).announce(0, 0, 0);
        Check.due("an update at 0", 0, () -> x.lookUpAt(0, 0));
        Check.due("none before", -1, () -> x.lookUpAt(-1, 0));
    }

    private static void order() {
        Bgpreplay x = new Bgpreplay();
        Check.path(x, 1).announce(0, 0, 0);
        x.drop(0);
        Check.due("announced, then dropped", -1, () -> x.lookUpAt(0, 0));
        x.announce(0, 0, 0);
        Check.due("and announced", 0, () -> x.lookUpAt(0, 0));
        x.hop(2);
        x.announce(0, 0, 0);
        Check.due("the later path", 2, () -> x.originAt(0, 0));
    }

    private static void mostUpdates() {
        Bgpreplay x = new Bgpreplay();
        x.hop(1);
        for (int i = 1; i <= 300; i++) {
            Check.due("update " + i, i == 1, () -> x.announce(0, 0, 0));
        }
        Check.stateThrown("the update 301", () -> x.announce(0, 0, 0));
        Check.due("updates", 300, x::updates);
    }

    private static void upToAndWith() {
        Bgpreplay x = new Bgpreplay();
        x.pass(7);
        Check.path(x, 1).announce(0, 0, 0);
        x.pass(1);
        x.drop(0);
        x.pass(1);
        Check.due("before", -1, () -> x.lookUpAt(6, 0));
        Check.due("with the first", 0, () -> x.lookUpAt(7, 0));
        Check.due("with the second", -1, () -> x.lookUpAt(8, 0));
        Check.due("now", -1, () -> x.lookUpAt(9, 0));
        Check.due("changes", 1, () -> x.changes(6, 7));
        Check.due("changes", 1, () -> x.changes(7, 8));
        Check.due("changes", 0, () -> x.changes(8, 9));
    }

    private static void emptyTable() {
        Bgpreplay x = new Bgpreplay();
        for (int time : new int[] {Check.LOW, -1, 0, 1, Check.HIGH}) {
            Check.due("without updates", -1, () -> x.lookUpAt(time, 0));
            Check.due("without updates", -1, () -> x.originAt(time, 0));
        }
        Check.path(x, 1).announce(0, 0, 0);
        for (int time : new int[] {Check.LOW, -1000000, -1}) {
            Check.due("before all updates", -1, () -> x.lookUpAt(time, 0));
            Check.due("before all updates", -1, () -> x.originAt(time, 0));
        }
    }

    private static void greatestLength() {
        Bgpreplay x = new Bgpreplay();
        x.hop(1);
        x.allow(128, 1, 4, 1);
        for (int length = 1; length <= 8; length++) {
            int l = length;
            x.announce(0, 128, l);
            Check.due("length " + l, l <= 4 ? Bgpreplay.VALID : Bgpreplay.INVALID, () -> x.verdict(0, 128, l));
        }
        x.announce(0, 0, 0);
        Check.due("a shorter one", Bgpreplay.NOT_FOUND, () -> x.verdict(0, 0, 0));
    }

    private static void mostEntries() {
        Bgpreplay x = new Bgpreplay();
        for (int i = 1; i <= 20; i++) {
            int origin = i;
            Check.due("entry " + i, true, () -> x.allow(255, 8, 8, origin));
        }
        Check.stateThrown("the entry 21", () -> x.allow(255, 8, 8, 21));
        Check.due("the entry 20 is in it", false, () -> x.allow(255, 8, 8, 20));
        Check.due("there is room", true, () -> x.allow(255, 8, 8, 21));
    }

    private static void valid() {
        Bgpreplay x = new Bgpreplay();
        Check.path(x, 1, 2, 30).announce(0, 64, 2);
        x.allow(64, 2, 2, 1);
        x.allow(64, 2, 2, 2);
        Check.due("networks that are no origin", Bgpreplay.INVALID, () -> x.verdict(0, 64, 2));
        x.allow(64, 2, 2, 30);
        Check.due("the origin", Bgpreplay.VALID, () -> x.verdict(0, 64, 2));
    }

    private static void invalid() {
        Bgpreplay x = new Bgpreplay();
        Check.path(x, 1).announce(0, 255, 8);
        x.allow(0, 0, 8, 2);
        Check.due("the prefix, not the origin", Bgpreplay.INVALID, () -> x.verdict(0, 255, 8));
        x.allow(0, 0, 8, 2);
        x.allow(0, 0, 7, 1);
        Check.due("the origin, not the length", Bgpreplay.INVALID, () -> x.verdict(0, 255, 8));
        x.allow(0, 0, 8, 2);
        Check.due("one has the origin, another one the length", Bgpreplay.INVALID, () -> x.verdict(0, 255, 8));
    }

    private static void notFound() {
        Bgpreplay x = new Bgpreplay();
        Check.path(x, 1).announce(0, 128, 1);
        Check.due("no entry", Bgpreplay.NOT_FOUND, () -> x.verdict(0, 128, 1));
        x.allow(0, 1, 8, 1);
        x.allow(128, 2, 8, 1);
        x.allow(192, 2, 8, 1);
        Check.due("none covers it", Bgpreplay.NOT_FOUND, () -> x.verdict(0, 128, 1));
    }

    private static void noRelation() {
        Bgpreplay x = new Bgpreplay();
        Check.path(x, 1, 30).announce(0, 0, 0);
        Check.due("none", Bgpreplay.UNCERTAIN, () -> x.valley(0, 0, 0));
        for (int relation : new int[] {Bgpreplay.PROVIDES, Bgpreplay.ALIKE, Bgpreplay.PROVIDED}) {
            x.relate(30, 1, relation);
            Check.due("relation " + relation, Bgpreplay.FREE, () -> x.valley(0, 0, 0));
        }
        x.relate(1, 30, Bgpreplay.STRANGE);
        Check.due("none again", Bgpreplay.UNCERTAIN, () -> x.valley(0, 0, 0));
    }

    private static void direction() {
        Bgpreplay x = new Bgpreplay();
        Check.path(x, 1, 2, 3).announce(0, 0, 0);
        x.relate(2, 3, Bgpreplay.PROVIDES);
        x.relate(1, 2, Bgpreplay.PROVIDED);
        Check.due("up from the origin, then down", Bgpreplay.FREE, () -> x.valley(0, 0, 0));
        x.relate(2, 3, Bgpreplay.PROVIDED);
        x.relate(1, 2, Bgpreplay.PROVIDES);
        Check.due("down from the origin, then up", Bgpreplay.VALLEY, () -> x.valley(0, 0, 0));
    }

    private static void unlikeOnes() {
        Bgpreplay x = new Bgpreplay();
        Check.path(x, 1, 1, 1, 1, 1, 1, 1, 1).announce(0, 0, 0);
        Check.due("no step", Bgpreplay.FREE, () -> x.valley(0, 0, 0));
        Check.path(x, 1, 1, 1, 1, 2, 2, 2, 2).announce(0, 0, 0);
        Check.due("one step", Bgpreplay.UNCERTAIN, () -> x.valley(0, 0, 0));
        x.relate(1, 2, Bgpreplay.ALIKE);
        Check.due("one level step", Bgpreplay.FREE, () -> x.valley(0, 0, 0));
    }

    private static void valleys() {
        int[] ups = {Bgpreplay.PROVIDES, Bgpreplay.ALIKE, Bgpreplay.PROVIDED};
        for (int first : ups) {
            for (int second : ups) {
                Bgpreplay x = new Bgpreplay();
                Check.path(x, 1, 2, 3).announce(0, 0, 0);
                x.relate(2, 3, first);
                x.relate(1, 2, second);
                boolean valley = first != Bgpreplay.PROVIDES && second != Bgpreplay.PROVIDED;
                Check.due("steps " + first + " " + second, valley ? 1 : 0, () -> x.valley(0, 0, 0));
            }
        }
    }

    private static void unknownSteps() {
        Bgpreplay x = new Bgpreplay();
        Check.path(x, 1, 2, 3, 4, 5, 6, 7, 8).announce(0, 0, 0);
        Check.due("all unknown", Bgpreplay.UNCERTAIN, () -> x.valley(0, 0, 0));
        x.relate(7, 8, Bgpreplay.PROVIDED);
        Check.due("down and six unknown", Bgpreplay.UNCERTAIN, () -> x.valley(0, 0, 0));
        x.relate(1, 2, Bgpreplay.PROVIDES);
        Check.due("down, five unknown, up", Bgpreplay.VALLEY, () -> x.valley(0, 0, 0));
        x.relate(7, 8, Bgpreplay.PROVIDES);
        Check.due("up, five unknown, up", Bgpreplay.UNCERTAIN, () -> x.valley(0, 0, 0));
    }
}
