/** The boundary cases of the promises 19 to 22: for each sentence a test of its own. */
public final class BoundsOfRegistryTest {
    public static void main(String[] args) {
        Check.holds("19: Enters an allowance, or takes it out if it is in it", BoundsOfRegistryTest::inAndOut);
        Check.holds("19: longest: length to 8", BoundsOfRegistryTest::longest);
        Check.holds("19: IllegalArgumentException if there is no such prefix", BoundsOfRegistryTest::allowNoPrefix);
        Check.holds("19: or network", BoundsOfRegistryTest::allowNoNetwork);
        Check.holds("19: or longest is out of range", BoundsOfRegistryTest::allowNoLongest);
        Check.holds("19: IllegalStateException if there are 20 entries", BoundsOfRegistryTest::allowFull);
        Check.holds("19: and it is not in it", BoundsOfRegistryTest::allowFullTakesOut);
        Check.holds("19: of several exceptions the first", BoundsOfRegistryTest::allowSeveral);
        Check.holds("19: a call that throws changes nothing", BoundsOfRegistryTest::refusedAllow);
        Check.holds("20: Returns what the registry says of a route", BoundsOfRegistryTest::verdict);
        Check.holds("20: each of 20 entries counts", BoundsOfRegistryTest::verdictOfTwenty);
        Check.holds("20: IndexOutOfBoundsException if there is no such peer", BoundsOfRegistryTest::verdictNoPeer);
        Check.holds("20: IllegalArgumentException if there is no such prefix", BoundsOfRegistryTest::verdictNoPrefix);
        Check.holds("20: NoSuchElementException if the peer has no route", BoundsOfRegistryTest::verdictNoRoute);
        Check.holds("20: of several exceptions the first", BoundsOfRegistryTest::verdictSeveral);
        Check.holds("20: a call that throws changes nothing", BoundsOfRegistryTest::refusedVerdict);
        Check.holds("21: relation: STRANGE, PROVIDES, ALIKE or PROVIDED", BoundsOfRegistryTest::relations);
        Check.holds("21: that of the other one to it is told by this", BoundsOfRegistryTest::toldByThis);
        Check.holds("21: Returns the relation before", BoundsOfRegistryTest::before);
        Check.holds("21: IllegalArgumentException if there is no such network", BoundsOfRegistryTest::relateNoNetwork);
        Check.holds("21: or other network", BoundsOfRegistryTest::relateNoOther);
        Check.holds("21: both are the same", BoundsOfRegistryTest::relateSame);
        Check.holds("21: or there is no such relation", BoundsOfRegistryTest::relateNoRelation);
        Check.holds("21: a call that throws changes nothing", BoundsOfRegistryTest::refusedRelate);
        Check.holds("22: FREE: without a valley", BoundsOfRegistryTest::free);
        Check.holds("22: VALLEY: with one", BoundsOfRegistryTest::withValley);
        Check.holds("22: UNCERTAIN: some steps are not known", BoundsOfRegistryTest::uncertain);
        Check.holds("22: IndexOutOfBoundsException if there is no such peer", BoundsOfRegistryTest::valleyNoPeer);
        Check.holds("22: IllegalArgumentException if there is no such prefix", BoundsOfRegistryTest::valleyNoPrefix);
        Check.holds("22: NoSuchElementException if the peer has no route", BoundsOfRegistryTest::valleyNoRoute);
        Check.holds("22: of several exceptions the first", BoundsOfRegistryTest::valleySeveral);
        Check.holds("22: a call that throws changes nothing", BoundsOfRegistryTest::refusedValley);
        Check.end();
    }

    /** Entries of the whole, of the networks 1 to 20. */
    private static Bgpreplay twentyEntries() {
        Bgpreplay x = new Bgpreplay();
        for (int origin = 1; origin <= 20; origin++) {
            x.allow(0, 0, 8, origin);
        }
        return x;
    }

    private static void inAndOut() {
        Bgpreplay x = new Bgpreplay();
        int[][] entries = {{0, 0, 0, 1}, {0, 0, 8, 30}, {255, 8, 8, 1}, {0, 8, 8, 30}, {0, 0, 0, 30}, {0, 0, 8, 1}};
        for (boolean is : new boolean[] {true, false, true}) {
            for (int[] e : entries) {
                Check.due("allow of " + java.util.Arrays.toString(e), is, () -> x.allow(e[0], e[1], e[2], e[3]));
            }
        }
    }

    private static void longest() {
        for (int length = 0; length <= 8; length++) {
            Bgpreplay x = new Bgpreplay();
            for (int longest = length; longest <= 8; longest++) {
                int l = length;
                int greatest = longest;
                Check.due(l + " to " + greatest, true, () -> x.allow(0, l, greatest, 1));
            }
        }
    }

    private static void allowNoPrefix() {
        Bgpreplay x = new Bgpreplay();
        Check.prefixesChecked("allow", (address, length) -> x.allow(address, length, 8, 1));
        Check.prefixesChecked("allow", (address, length) -> x.allow(address, length, length, 1));
    }

    private static void allowNoNetwork() {
        Bgpreplay x = new Bgpreplay();
        for (int origin : Check.NO_NETWORKS) {
            Check.argumentThrown("origin " + origin, () -> x.allow(0, 0, 8, origin));
            Check.argumentThrown("origin " + origin, () -> x.allow(255, 8, 8, origin));
        }
    }

    private static void allowNoLongest() {
        Bgpreplay x = new Bgpreplay();
        for (int length = 0; length <= 8; length++) {
            int l = length;
            for (int longest : new int[] {l - 1, -1, 9, Check.LOW, Check.HIGH}) {
                Check.argumentThrown(l + " to " + longest, () -> x.allow(0, l, longest, 1));
            }
        }
    }

    private static void allowFull() {
        Bgpreplay x = twentyEntries();
        Check.stateThrown("another origin", () -> x.allow(0, 0, 8, 21));
        Check.stateThrown("another longest", () -> x.allow(0, 0, 7, 20));
        Check.stateThrown("another prefix", () -> x.allow(0, 1, 8, 20));
        Check.due("the last one goes out", false, () -> x.allow(0, 0, 8, 20));
        Check.due("another one comes in", true, () -> x.allow(0, 0, 8, 21));
        Check.stateThrown("it is full again", () -> x.allow(0, 0, 8, 20));
    }

    private static void allowFullTakesOut() {
        for (int place = 1; place <= 20; place++) {
            Bgpreplay x = twentyEntries();
            int origin = place;
            Check.due("entry " + place, false, () -> x.allow(0, 0, 8, origin));
            Check.due("entry " + place + " again", true, () -> x.allow(0, 0, 8, origin));
            Check.due("entry " + place + " again", false, () -> x.allow(0, 0, 8, origin));
        }
    }

    private static void allowSeveral() {
        Bgpreplay x = twentyEntries();
        Check.argumentThrown("no prefix, 20 entries", () -> x.allow(1, 0, 8, 21));
        Check.argumentThrown("no length, 20 entries", () -> x.allow(0, 9, 9, 21));
        Check.argumentThrown("no network, 20 entries", () -> x.allow(0, 0, 8, 31));
        Check.argumentThrown("longest too small, 20 entries", () -> x.allow(0, 1, 0, 21));
        Check.argumentThrown("longest too great, 20 entries", () -> x.allow(0, 0, 9, 21));
    }

    private static void refusedAllow() {
        Check.unchanged(Story::some, x -> {
            Check.argumentThrown("no prefix", () -> x.allow(65, 2, 4, 20));
            Check.argumentThrown("no network", () -> x.allow(64, 2, 4, 0));
            Check.argumentThrown("no longest", () -> x.allow(64, 2, 1, 20));
            Check.argumentThrown("no longest", () -> x.allow(0, 0, 9, 21));
        });
        Check.unchanged(Story::fullRegistry, x -> {
            Check.stateThrown("20 entries", () -> x.allow(0, 0, 8, 9));
            Check.stateThrown("20 entries", () -> x.allow(64, 2, 4, 21));
            Check.argumentThrown("no network", () -> x.allow(64, 2, 4, 31));
        });
    }

    private static void verdict() {
        Bgpreplay x = new Bgpreplay();
        Check.path(x, 1).announce(0, 255, 8);
        Check.due("no entry", 0, () -> x.verdict(0, 255, 8));
        x.allow(254, 8, 8, 1);
        Check.due("the one beside it", 0, () -> x.verdict(0, 255, 8));
        x.allow(254, 7, 7, 1);
        Check.due("one too short", 2, () -> x.verdict(0, 255, 8));
        x.allow(254, 7, 8, 1);
        Check.due("just long enough", 1, () -> x.verdict(0, 255, 8));
        x.allow(254, 7, 8, 1);
        x.allow(254, 7, 7, 1);
        Check.due("both are out", 0, () -> x.verdict(0, 255, 8));
        x.allow(255, 8, 8, 1);
        Check.due("its own prefix", 1, () -> x.verdict(0, 255, 8));
    }

    private static void verdictOfTwenty() {
        Bgpreplay x = twentyEntries();
        for (int origin = 2; origin <= 20; origin++) {
            Check.path(x, 1, origin).announce(0, 255, 8);
            Check.due("origin " + origin, 1, () -> x.verdict(0, 255, 8));
        }
        Check.path(x, 1).announce(0, 255, 8);
        Check.due("origin 1", 1, () -> x.verdict(0, 255, 8));
        Check.path(x, 1, 21).announce(0, 255, 8);
        Check.due("origin 21", 2, () -> x.verdict(0, 255, 8));
    }

    private static void verdictNoPeer() {
        Bgpreplay x = Story.some();
        Check.peersChecked("verdict", peer -> x.verdict(peer, 64, 2));
    }

    private static void verdictNoPrefix() {
        Bgpreplay x = Story.some();
        Check.prefixesChecked("verdict", (address, length) -> x.verdict(0, address, length));
    }

    private static void verdictNoRoute() {
        Bgpreplay x = Story.some();
        Check.elementThrown("none has one", () -> x.verdict(0, 0, 8));
        Check.elementThrown("another peer has one", () -> x.verdict(0, 96, 3));
        Check.elementThrown("a peer without routes", () -> x.verdict(2, 64, 2));
        x.withdraw(0, 64, 2);
        Check.elementThrown("a withdrawn one", () -> x.verdict(0, 64, 2));
    }

    private static void verdictSeveral() {
        Bgpreplay x = Story.some();
        Check.indexThrown("no peer, no prefix", () -> x.verdict(6, 65, 2));
        Check.indexThrown("no peer, no prefix", () -> x.verdict(-1, 64, 9));
        Check.argumentThrown("no prefix of a peer without routes", () -> x.verdict(2, 65, 2));
    }

    private static void refusedVerdict() {
        Check.unchanged(Story::some, x -> {
            Check.indexThrown("no peer", () -> x.verdict(6, 64, 2));
            Check.argumentThrown("no prefix", () -> x.verdict(0, 64, 1));
            Check.elementThrown("no route", () -> x.verdict(2, 64, 2));
            Check.due("an answer", Bgpreplay.VALID, () -> x.verdict(0, 64, 2));
        });
    }

    private static void relations() {
        Bgpreplay x = new Bgpreplay();
        int[] all = {Bgpreplay.STRANGE, Bgpreplay.PROVIDES, Bgpreplay.ALIKE, Bgpreplay.PROVIDED};
        for (int relation : all) {
            x.relate(1, 30, relation);
            Check.due("relation " + relation, relation, () -> x.relate(1, 30, relation));
        }
        x.relate(1, 30, Bgpreplay.STRANGE);
        Check.due("none again", Bgpreplay.STRANGE, () -> x.relate(1, 30, 0));
    }

    private static void toldByThis() {
        Bgpreplay x = new Bgpreplay();
        x.relate(1, 30, Bgpreplay.PROVIDES);
        Check.due("provides", Bgpreplay.PROVIDED, () -> x.relate(30, 1, Bgpreplay.PROVIDES));
        Check.due("is provided", Bgpreplay.PROVIDED, () -> x.relate(1, 30, Bgpreplay.PROVIDED));
        Check.due("is provided", Bgpreplay.PROVIDES, () -> x.relate(30, 1, Bgpreplay.ALIKE));
        Check.due("are alike", Bgpreplay.ALIKE, () -> x.relate(1, 30, Bgpreplay.STRANGE));
        Check.due("none", Bgpreplay.STRANGE, () -> x.relate(30, 1, Bgpreplay.STRANGE));
    }

    private static void before() {
        Bgpreplay x = new Bgpreplay();
        Check.due("at first", 0, () -> x.relate(30, 29, Bgpreplay.PROVIDED));
        Check.due("behind another one", 3, () -> x.relate(30, 29, Bgpreplay.ALIKE));
        Check.due("behind another one", 2, () -> x.relate(30, 29, Bgpreplay.PROVIDES));
        Check.due("behind another one", 1, () -> x.relate(30, 29, Bgpreplay.PROVIDES));
        Check.due("behind the same", 1, () -> x.relate(30, 29, Bgpreplay.STRANGE));
        Check.due("of other networks", 0, () -> x.relate(30, 28, Bgpreplay.STRANGE));
        Check.due("of other networks", 0, () -> x.relate(28, 29, Bgpreplay.STRANGE));
    }

    private static void relateNoNetwork() {
        Bgpreplay x = new Bgpreplay();
        for (int network : Check.NO_NETWORKS) {
            Check.argumentThrown("network " + network, () -> x.relate(network, 1, 0));
            Check.argumentThrown("network " + network, () -> x.relate(network, 30, 3));
        }
    }

    private static void relateNoOther() {
        Bgpreplay x = new Bgpreplay();
        for (int other : Check.NO_NETWORKS) {
            Check.argumentThrown("other " + other, () -> x.relate(1, other, 0));
            Check.argumentThrown("other " + other, () -> x.relate(30, other, 3));
        }
    }

    private static void relateSame() {
        Bgpreplay x = new Bgpreplay();
        for (int network = 1; network <= 30; network++) {
            int n = network;
            Check.argumentThrown("both " + n, () -> x.relate(n, n, Bgpreplay.STRANGE));
            Check.argumentThrown("both " + n, () -> x.relate(n, n, Bgpreplay.ALIKE));
        }
    }

    private static void relateNoRelation() {
        Bgpreplay x = new Bgpreplay();
        for (int relation : new int[] {-1, 4, 5, 256, Check.LOW, Check.HIGH}) {
            Check.argumentThrown("relation " + relation, () -> x.relate(1, 30, relation));
        }
    }

    private static void refusedRelate() {
        Check.unchanged(Story::some, x -> {
            Check.argumentThrown("no network", () -> x.relate(0, 9, 1));
            Check.argumentThrown("no other network", () -> x.relate(1, 31, 1));
            Check.argumentThrown("both the same", () -> x.relate(9, 9, 2));
            Check.argumentThrown("relation too low", () -> x.relate(1, 9, -1));
            Check.argumentThrown("relation too high", () -> x.relate(9, 20, 4));
        });
    }

    private static void free() {
        Bgpreplay x = new Bgpreplay();
        Check.path(x, 1).announce(0, 0, 0);
        Check.due("one network", 0, () -> x.valley(0, 0, 0));
        Check.path(x, 1, 1).announce(0, 0, 0);
        Check.due("one network twice", 0, () -> x.valley(0, 0, 0));
        Check.path(x, 1, 2, 3, 4, 5, 6, 7, 8).announce(0, 0, 0);
        for (int network = 1; network < 8; network++) {
            int relation = network > 4 ? Bgpreplay.PROVIDES : network == 4 ? Bgpreplay.ALIKE : Bgpreplay.PROVIDED;
            x.relate(network, network + 1, relation);
        }
        Check.due("three up, one level, three down", 0, () -> x.valley(0, 0, 0));
    }

    private static void withValley() {
        Bgpreplay x = new Bgpreplay();
        Check.path(x, 1, 2, 3, 4, 5, 6, 7, 8).announce(0, 0, 0);
        for (int network = 1; network < 8; network++) {
            x.relate(network, network + 1, Bgpreplay.PROVIDED);
        }
        Check.due("seven down", 0, () -> x.valley(0, 0, 0));
        x.relate(1, 2, Bgpreplay.ALIKE);
        Check.due("the last one level", 1, () -> x.valley(0, 0, 0));
        x.relate(1, 2, Bgpreplay.PROVIDES);
        Check.due("the last one up", 1, () -> x.valley(0, 0, 0));
        for (int network = 1; network < 7; network++) {
            x.relate(network, network + 1, Bgpreplay.PROVIDES);
        }
        Check.due("the first one down, then up", 1, () -> x.valley(0, 0, 0));
        x.relate(7, 8, Bgpreplay.ALIKE);
        Check.due("the first one level, then up", 1, () -> x.valley(0, 0, 0));
        x.relate(7, 8, Bgpreplay.PROVIDES);
        Check.due("seven up", 0, () -> x.valley(0, 0, 0));
    }

    private static void uncertain() {
        Bgpreplay x = new Bgpreplay();
        Check.path(x, 1, 2, 3).announce(0, 0, 0);
        Check.due("none is known", 2, () -> x.valley(0, 0, 0));
        x.relate(2, 3, Bgpreplay.PROVIDED);
        Check.due("the last one is unknown", 2, () -> x.valley(0, 0, 0));
        x.relate(2, 3, Bgpreplay.STRANGE);
        x.relate(1, 2, Bgpreplay.PROVIDES);
        Check.due("the first one is unknown", 2, () -> x.valley(0, 0, 0));
        x.relate(2, 3, Bgpreplay.ALIKE);
        Check.due("both are known", 1, () -> x.valley(0, 0, 0));
        Check.path(x, 1, 2, 3, 4).announce(0, 0, 0);
        Check.due("a valley, and one unknown", 1, () -> x.valley(0, 0, 0));
    }

    private static void valleyNoPeer() {
        Bgpreplay x = Story.some();
        Check.peersChecked("valley", peer -> x.valley(peer, 64, 2));
    }

    private static void valleyNoPrefix() {
        Bgpreplay x = Story.some();
        Check.prefixesChecked("valley", (address, length) -> x.valley(0, address, length));
    }

    private static void valleyNoRoute() {
        Bgpreplay x = Story.some();
        Check.elementThrown("none has one", () -> x.valley(0, 0, 8));
        Check.elementThrown("another peer has one", () -> x.valley(0, 96, 3));
        Check.elementThrown("a peer without routes", () -> x.valley(2, 64, 2));
        x.drop(1);
        Check.elementThrown("a dropped one", () -> x.valley(1, 64, 2));
    }

    private static void valleySeveral() {
        Bgpreplay x = Story.some();
        Check.indexThrown("no peer, no prefix", () -> x.valley(6, 65, 2));
        Check.indexThrown("no peer, no prefix", () -> x.valley(-1, 64, 9));
        Check.argumentThrown("no prefix of a peer without routes", () -> x.valley(2, 65, 2));
    }

    private static void refusedValley() {
        Check.unchanged(Story::some, x -> {
            Check.indexThrown("no peer", () -> x.valley(6, 64, 2));
            Check.argumentThrown("no prefix", () -> x.valley(0, 64, 1));
            Check.elementThrown("no route", () -> x.valley(2, 64, 2));
            Check.due("an answer", Bgpreplay.FREE, () -> x.valley(0, 64, 2));
        });
    }
}
