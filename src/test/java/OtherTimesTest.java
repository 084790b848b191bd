/** Promises 23 to 25. */
public final class OtherTimesTest {
    public static void main(String[] args) {
        lookUpAt();
        originAt();
        sameTimeInOrder();
        refuses();
        changes();
        changesOfPaths();
        Check.end();
    }

    /** At 0: 64/2 of peers 0 and 1. At 10: 96/3. At 15: peer 0 goes. At 20: 64/2 goes. */
    private static Bgpreplay story() {
        Bgpreplay x = new Bgpreplay();
        Check.path(x, 1, 20).announce(0, 64, 2);
        Check.path(x, 2, 9, 21).announce(1, 64, 2);
        x.pass(10);
        Check.path(x, 3, 22).announce(2, 96, 3);
        x.pass(5);
        x.drop(0);
        x.pass(5);
        x.withdraw(1, 64, 2);
        return x;
    }

    // Promise 23
    private static void lookUpAt() {
        Bgpreplay x = story();
        int[][] wants = {
            {Check.LOW, 70, -1}, {-1, 70, -1}, {0, 70, 2}, {0, 100, 2}, {0, 63, -1}, {9, 100, 2}, {10, 100, 3},
            {10, 70, 2}, {15, 70, 2}, {19, 70, 2}, {20, 70, -1}, {20, 100, 3}, {21, 100, 3}, {Check.HIGH, 100, 3},
            {Check.HIGH, 70, -1}, {10, 96, 3}, {10, 127, 3}, {10, 128, -1},
        };
        for (int[] w : wants) {
            Check.due("lookUpAt(" + w[0] + ", " + w[1] + ")", w[2], () -> x.lookUpAt(w[0], w[1]));
        }
        x.pass(100);
        Check.due("behind the last update", 3, () -> x.lookUpAt(60, 100));
        Check.path(x, 3, 22).announce(2, 100, 8);
        Check.due("a later update", 3, () -> x.lookUpAt(119, 100));
        Check.due("a later update", 8, () -> x.lookUpAt(120, 100));
        Check.due("the earlier tables stay", 2, () -> x.lookUpAt(9, 100));
    }

    // Promise 24
    private static void originAt() {
        Bgpreplay x = story();
        int[][] wants = {
            {Check.LOW, 70, -1}, {-1, 70, -1}, {0, 70, 20}, {0, 100, 20}, {14, 70, 20}, {15, 70, 21}, {19, 70, 21},
            {20, 70, -1}, {9, 100, 20}, {10, 100, 22}, {15, 100, 22}, {Check.HIGH, 100, 22}, {0, 0, -1},
        };
        for (int[] w : wants) {
            Check.due("originAt(" + w[0] + ", " + w[1] + ")", w[2], () -> x.originAt(w[0], w[1]));
        }
        x.pass(1);
        Check.path(x, 6, 6, 25).announce(5, 96, 3);
        Check.due("the shorter path", 22, () -> x.originAt(21, 100));
        Check.path(x, 5, 24).announce(4, 96, 3);
        Check.due("the lower peer", 22, () -> x.originAt(21, 100));
        Check.path(x, 1, 23).announce(0, 96, 3);
        Check.due("the lowest peer", 23, () -> x.originAt(21, 100));
        Check.path(x, 6).announce(5, 96, 3);
        Check.due("the shortest path", 6, () -> x.originAt(21, 100));
        Check.due("earlier", 22, () -> x.originAt(20, 100));
        Check.path(x, 2, 26).announce(1, 100, 8);
        Check.due("the longest prefix goes before the best route", 26, () -> x.originAt(21, 100));
    }

    private static void sameTimeInOrder() {
        Bgpreplay x = new Bgpreplay();
        x.pass(3);
        Check.path(x, 1, 11).announce(0, 0, 0);
        Check.path(x, 1, 12).announce(0, 0, 0);
        Check.due("the later of one time", 12, () -> x.originAt(3, 0));
        x.drop(0);
        Check.due("gone at the same time", -1, () -> x.lookUpAt(3, 0));
        Check.due("nothing changed then", 0, () -> x.changes(2, 3));
        Check.path(x, 1, 13).announce(0, 0, 0);
        Check.due("there again", 13, () -> x.originAt(3, 0));
        x.withdraw(0, 0, 0);
        Check.due("gone again", -1, () -> x.originAt(3, 0));
        Check.due("still nothing before", -1, () -> x.originAt(2, 0));
    }

    private static void refuses() {
        Bgpreplay x = story();
        for (int time : new int[] {Check.LOW, -1, 0, 20, Check.HIGH}) {
            Check.addressesChecked("lookUpAt " + time, address -> x.lookUpAt(time, address));
            Check.addressesChecked("originAt " + time, address -> x.originAt(time, address));
        }
    }

    // Promise 25
    private static void changes() {
        Bgpreplay x = story();
        int[][] wants = {
            {-1, 0, 1}, {0, 0, 0}, {0, 9, 0}, {0, 10, 1}, {0, 15, 2}, {10, 15, 1}, {15, 20, 1}, {0, 20, 2}, {-5, 20, 1},
            {Check.LOW, Check.HIGH, 1}, {Check.LOW, -1, 0}, {20, Check.HIGH, 0}, {-1, 19, 2},
        };
        for (int[] w : wants) {
            Check.due("changes(" + w[0] + ", " + w[1] + ")", w[2], () -> x.changes(w[0], w[1]));
            Check.due("changes(" + w[1] + ", " + w[0] + ")", w[2], () -> x.changes(w[1], w[0]));
        }
    }

    private static void changesOfPaths() {
        Bgpreplay x = new Bgpreplay();
        Check.path(x, 1, 9, 20).announce(0, 0, 0);
        Check.path(x, 2, 9, 9, 20).announce(1, 0, 0);
        x.pass(1);
        Check.path(x, 1, 9, 20).announce(0, 0, 0);
        Check.due("the same path again", 0, () -> x.changes(0, 1));
        x.withdraw(0, 0, 0);
        x.announce(0, 0, 0);
        Check.due("the same path behind withdraw", 0, () -> x.changes(0, 1));
        x.pass(1);
        Check.path(x, 1, 10, 20).announce(0, 0, 0);
        Check.due("another network on the way", 1, () -> x.changes(1, 2));
        x.pass(1);
        Check.path(x, 1, 10, 21).announce(0, 0, 0);
        Check.due("another origin", 1, () -> x.changes(2, 3));
        x.pass(1);
        Check.path(x, 1, 1, 10, 21).announce(0, 0, 0);
        Check.due("one more side by side", 1, () -> x.changes(3, 4));
        x.pass(1);
        Check.path(x, 2, 9, 21).announce(1, 0, 0);
        Check.due("another peer", 1, () -> x.changes(4, 5));
        x.pass(1);
        Check.path(x, 1, 8, 9, 10).announce(0, 0, 0);
        Check.path(x, 3, 9, 21).announce(2, 0, 0);
        Check.due("routes that are not the best", 0, () -> x.changes(5, 6));
        Check.due("there and back", 1, () -> x.changes(1, 6));
        x.pass(1);
        Check.path(x, 1);
        for (int address = 0; address < 256; address++) {
            x.announce(0, address, 8);
        }
        Check.due("many", 256, () -> x.changes(6, 7));
        Check.due("many more", 257, () -> x.changes(-1, 7));
    }
}
