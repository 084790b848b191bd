/** The boundary cases of the promises 23 to 25: for each sentence a test of its own. */
public final class BoundsOfTimesTest {
    public static void main(String[] args) {
        Check.holds("23: time: any number", BoundsOfTimesTest::lookUpAnyTime);
        Check.holds("23: Returns the length of the prefix that is found", BoundsOfTimesTest::lookUpAt);
        Check.holds("23: NONE if none was there that has the address", BoundsOfTimesTest::lookUpNone);
        Check.holds("23: IndexOutOfBoundsException if there is no such address", BoundsOfTimesTest::lookUpNoAddress);
        Check.holds("24: time: any number", BoundsOfTimesTest::originAnyTime);
        Check.holds("24: Returns the origin of the best route", BoundsOfTimesTest::originAt);
        Check.holds("24: NONE if no prefix was there that has the address", BoundsOfTimesTest::originNone);
        Check.holds("24: IndexOutOfBoundsException if there is no such address", BoundsOfTimesTest::originNoAddress);
        Check.holds("25: time, other: any number", BoundsOfTimesTest::changesAnyTime);
        Check.holds("25: Returns for how many prefixes: none", BoundsOfTimesTest::noChanges);
        Check.holds("25: Returns for how many prefixes: as many as can be", BoundsOfTimesTest::mostChanges);
        Check.holds("25: another peer", BoundsOfTimesTest::anotherPeer);
        Check.holds("25: or another path", BoundsOfTimesTest::anotherPath);
        Check.holds("25: or there is one in one table alone", BoundsOfTimesTest::oneTableAlone);
        Check.holds("23 to 25: of tables with 300 updates", BoundsOfTimesTest::fullOfUpdates);
        Check.holds("23 to 25: a call that throws changes nothing", BoundsOfTimesTest::refused);
        Check.holds("23 to 25: a call that asks changes nothing", BoundsOfTimesTest::asked);
        Check.end();
    }

    private static final int[] BEFORE_ALL = {Check.LOW, Check.LOW + 1, -1000001, -1000000, -1};
    private static final int[] BEHIND_ALL = {15, 16, 17, 1000, 1000000, 1000001, Check.HIGH - 1, Check.HIGH};

    private static void lookUpAnyTime() {
        Bgpreplay x = Story.some();
        for (int time : BEFORE_ALL) {
            Check.due("lookUpAt " + time, -1, () -> x.lookUpAt(time, 255));
        }
        for (int time : BEHIND_ALL) {
            Check.due("lookUpAt " + time, 8, () -> x.lookUpAt(time, 255));
        }
    }

    private static void lookUpAt() {
        Bgpreplay x = Story.some();
        int[][] wants = {
            {0, 64, 2}, {0, 127, 2}, {9, 96, 2}, {10, 96, 3}, {10, 127, 3}, {10, 95, 2}, {10, 0, 0}, {10, 128, 0},
            {14, 255, 0}, {15, 255, 8}, {15, 254, 0}, {16, 0, 0},
        };
        for (int[] w : wants) {
            Check.due("lookUpAt(" + w[0] + ", " + w[1] + ")", w[2], () -> x.lookUpAt(w[0], w[1]));
        }
    }

    private static void lookUpNone() {
        Bgpreplay x = Story.some();
        for (int address : new int[] {0, 63, 128, 255}) {
            Check.due("before it was announced", -1, () -> x.lookUpAt(9, address));
            Check.due("when it was announced", 0, () -> x.lookUpAt(10, address));
        }
        x.drop(5);
        Check.due("before it was dropped", 0, () -> x.lookUpAt(15, 0));
        Check.due("when it was dropped", -1, () -> x.lookUpAt(16, 0));
        Check.due("of a new object", -1, () -> new Bgpreplay().lookUpAt(0, 0));
        Check.due("of a new object", -1, () -> new Bgpreplay().lookUpAt(Check.HIGH, 255));
    }

    private static void lookUpNoAddress() {
        Bgpreplay x = Story.some();
        for (int time : new int[] {Check.LOW, -1, 0, 16, Check.HIGH}) {
            Check.addressesChecked("lookUpAt " + time, address -> x.lookUpAt(time, address));
        }
    }

    private static void originAnyTime() {
        Bgpreplay x = Story.some();
        for (int time : BEFORE_ALL) {
            Check.due("originAt " + time, -1, () -> x.originAt(time, 255));
        }
        for (int time : BEHIND_ALL) {
            Check.due("originAt " + time, 9, () -> x.originAt(time, 255));
        }
    }

    private static void originAt() {
        Bgpreplay x = new Bgpreplay();
        Check.path(x, 6, 5, 4, 3, 2, 1, 7, 30).announce(5, 255, 8);
        Check.due("of eight networks", 30, () -> x.originAt(0, 255));
        Check.path(x, 5, 4, 3, 2, 1, 7, 8, 29).announce(4, 255, 8);
        Check.due("the lower peer", 29, () -> x.originAt(0, 255));
        Check.path(x, 6, 5, 4, 3, 2, 1, 28).announce(5, 255, 8);
        Check.due("one network fewer", 28, () -> x.originAt(0, 255));
        Check.path(x, 1, 2, 3, 4, 5, 6, 7, 27).announce(0, 255, 8);
        Check.due("a later one of eight networks", 28, () -> x.originAt(0, 255));
        Check.path(x, 5, 4, 3, 2, 1, 7, 26).announce(4, 255, 8);
        Check.path(x, 6, 5, 4, 3, 2, 1, 25).announce(5, 255, 8);
        Check.due("a later one of the higher peer", 26, () -> x.originAt(0, 255));
        Check.path(x, 1).announce(0, 254, 7);
        Check.due("a shorter prefix does not count", 26, () -> x.originAt(0, 255));
        Check.due("of one network", 1, () -> x.originAt(0, 254));
    }

    private static void originNone() {
        Bgpreplay x = Story.some();
        for (int address : new int[] {0, 63, 128, 255}) {
            Check.due("before it was announced", -1, () -> x.originAt(9, address));
            Check.due("when it was announced", 20, () -> x.originAt(10, address));
        }
        x.drop(5);
        Check.due("before it was dropped", 20, () -> x.originAt(15, 0));
        Check.due("when it was dropped", -1, () -> x.originAt(16, 0));
        Check.due("of a new object", -1, () -> new Bgpreplay().originAt(0, 0));
        Check.due("of a new object", -1, () -> new Bgpreplay().originAt(Check.HIGH, 255));
    }

    private static void originNoAddress() {
        Bgpreplay x = Story.some();
        for (int time : new int[] {Check.LOW, -1, 0, 16, Check.HIGH}) {
            Check.addressesChecked("originAt " + time, address -> x.originAt(time, address));
        }
    }

    private static void changesAnyTime() {
        Bgpreplay x = Story.some();
        for (int before : BEFORE_ALL) {
            for (int behind : BEHIND_ALL) {
                Check.due("changes " + before + " " + behind, 4, () -> x.changes(before, behind));
                Check.due("changes " + behind + " " + before, 4, () -> x.changes(behind, before));
            }
        }
    }

    private static void noChanges() {
        Bgpreplay x = Story.some();
        for (int[] times : new int[][] {BEFORE_ALL, BEHIND_ALL, {0, 1, 9}, {10, 11, 14}}) {
            for (int time : times) {
                Check.due("changes " + time, 0, () -> x.changes(time, time));
                Check.due("changes " + times[0] + " " + time, 0, () -> x.changes(times[0], time));
            }
        }
        Check.due("of a new object", 0, () -> new Bgpreplay().changes(Check.LOW, Check.HIGH));
    }

    private static void mostChanges() {
        Bgpreplay x = new Bgpreplay();
        x.hop(1);
        for (int address = 0; address < 256; address++) {
            x.announce(0, address, 8);
        }
        for (int address = 0; address < 88; address += 2) {
            x.announce(0, address, 7);
        }
        Check.due("300 prefixes", 300, () -> x.changes(-1, 0));
        Check.due("300 prefixes", 300, () -> x.changes(0, -1));
        Check.due("none", 0, () -> x.changes(0, 0));
    }

    private static void anotherPeer() {
        Bgpreplay x = new Bgpreplay();
        Check.path(x, 2, 9).announce(1, 0, 0);
        x.pass(1);
        Check.path(x, 3, 9).announce(2, 0, 0);
        x.pass(1);
        Check.path(x, 1, 9).announce(0, 0, 0);
        x.pass(1);
        x.drop(0);
        Check.due("a higher peer beside it", 0, () -> x.changes(0, 1));
        Check.due("a lower peer", 1, () -> x.changes(1, 2));
        Check.due("the first peer again", 1, () -> x.changes(2, 3));
        Check.due("there and back", 0, () -> x.changes(0, 3));
    }

    private static void anotherPath() {
        int[][] paths = {{1, 2, 9}, {1, 3, 9}, {1, 3, 8}, {1, 3}, {1}, {1, 1}, {1, 1, 1, 1, 1, 1, 1, 1},
            {1, 1, 1, 1, 1, 1, 1, 2}, {1, 1, 1, 1, 1, 1, 2, 2}};
        Bgpreplay x = new Bgpreplay();
        for (int[] path : paths) {
            Check.path(x, path).announce(0, 255, 8);
            x.pass(1);
            x.announce(0, 255, 8);
            x.pass(1);
        }
        for (int i = 0; i < paths.length; i++) {
            int time = 2 * i;
            Check.due("the path " + i + " again", 0, () -> x.changes(time, time + 1));
            Check.due("another one than the path " + i, i < paths.length - 1 ? 1 : 0,
                () -> x.changes(time + 1, time + 2));
        }
    }

    private static void oneTableAlone() {
        Bgpreplay x = new Bgpreplay();
        x.pass(1);
        Check.path(x, 1).announce(0, 0, 0);
        x.pass(1);
        x.announce(0, 255, 8);
        x.pass(1);
        x.drop(0);
        Check.due("one comes", 1, () -> x.changes(0, 1));
        Check.due("another one comes", 1, () -> x.changes(1, 2));
        Check.due("two have come", 2, () -> x.changes(0, 2));
        Check.due("two have gone", 2, () -> x.changes(2, 3));
        Check.due("both tables are empty", 0, () -> x.changes(0, 3));
    }

    private static void fullOfUpdates() {
        Bgpreplay x = new Bgpreplay();
        x.hop(1);
        for (int i = 0; i < 150; i++) {
            x.announce(0, 0, 0);
            x.announce(0, 255, 8);
            x.pass(1);
        }
        Check.due("the first of 300", 8, () -> x.lookUpAt(0, 255));
        Check.due("the last of 300", 8, () -> x.lookUpAt(149, 255));
        Check.due("the first of 300", 1, () -> x.originAt(0, 254));
        Check.due("the last of 300", 1, () -> x.originAt(150, 254));
        Check.due("before all", -1, () -> x.lookUpAt(-1, 255));
        Check.due("the same ones", 0, () -> x.changes(0, 150));
        Check.due("all of them", 2, () -> x.changes(-1, 150));
        Bgpreplay y = new Bgpreplay();
        y.hop(1);
        for (int i = 0; i < 299; i++) {
            y.drop(0);
        }
        y.pass(1);
        y.announce(0, 0, 0);
        Check.due("without the update 300", -1, () -> y.originAt(0, 0));
        Check.due("with the update 300", 1, () -> y.originAt(1, 0));
        Check.due("with the update 300", 0, () -> y.lookUp(0));
        Check.due("the update 300 alone", 1, () -> y.changes(0, 1));
    }

    private static void refused() {
        Check.unchanged(Story::some, x -> {
            Check.indexThrown("lookUpAt", () -> x.lookUpAt(0, -1));
            Check.indexThrown("lookUpAt", () -> x.lookUpAt(Check.HIGH, 256));
            Check.indexThrown("originAt", () -> x.originAt(0, 256));
            Check.indexThrown("originAt", () -> x.originAt(Check.LOW, -1));
        });
    }

    private static void asked() {
        Check.unchanged(Story::some, x -> {
            Check.due("lookUpAt", 2, () -> x.lookUpAt(0, 64));
            Check.due("originAt", 21, () -> x.originAt(0, 64));
            Check.due("changes", 4, () -> x.changes(-1, 16));
            Check.due("changes", 1, () -> x.changes(0, -1));
            Check.due("changes", 3, () -> x.changes(0, 16));
        });
    }
}
