/** Objects to begin with, that have something of everything. */
final class Story {
    private Story() {
    }

    /**
     * At 0: 64/2 of the peers 0 and 1. At 10: 96/3 of peer 1, and the whole of peer 5. At 15: 255/8 of peer 0,
     * and the drop of peer 2, which has no routes. Then it is 16, and the path 1 9 20 is being made.
     */
    static Bgpreplay some() {
        Bgpreplay x = new Bgpreplay();
        Check.path(x, 1, 9, 20).announce(0, 64, 2);
        Check.path(x, 2, 21).announce(1, 64, 2);
        x.pass(10);
        x.announce(1, 96, 3);
        Check.path(x, 6, 6, 20).announce(5, 0, 0);
        x.pass(5);
        Check.path(x, 1, 1, 1, 9).announce(0, 255, 8);
        x.drop(2);
        x.allow(64, 2, 4, 20);
        x.allow(0, 0, 8, 21);
        x.relate(1, 9, Bgpreplay.PROVIDED);
        x.relate(9, 20, Bgpreplay.PROVIDES);
        x.relate(2, 21, Bgpreplay.ALIKE);
        Check.path(x, 1, 9, 20);
        x.pass(1);
        return x;
    }

    /** The same with 300 updates. */
    static Bgpreplay fullOfUpdates() {
        Bgpreplay x = some();
        for (int i = x.updates(); i < 300; i++) {
            x.drop(2);
        }
        return x;
    }

    /** The same as the first, with 8 networks in the path that is being made: 1 9 20 3 4 5 30 30. */
    static Bgpreplay fullPath() {
        Bgpreplay x = some();
        for (int network : new int[] {3, 4, 5, 30, 30}) {
            x.hop(network);
        }
        return x;
    }

    /** The same as the first, with an empty path. */
    static Bgpreplay emptyPath() {
        Bgpreplay x = some();
        x.clearPath();
        return x;
    }

    /** The same as the first, with 20 entries in the registry: 18 more for 128/1 to 8, of the networks 1 to 18. */
    static Bgpreplay fullRegistry() {
        Bgpreplay x = some();
        for (int origin = 1; origin <= 18; origin++) {
            x.allow(128, 1, 8, origin);
        }
        return x;
    }
}
