/** What an object answers, in one text, by some 120 calls; the last of them change the object. */
final class Seen {
    private static final int[] TIMES = {-1, 0, 9, 10, 15, 16, Check.HIGH};
    private static final int[][] ROUTES = {{0, 64, 2}, {1, 64, 2}, {1, 96, 3}, {5, 0, 0}, {0, 255, 8}};

    private final StringBuilder text = new StringBuilder();
    private final Bgpreplay x;

    private Seen(Bgpreplay x) {
        this.x = x;
    }

    static String of(Bgpreplay x) {
        Seen seen = new Seen(x);
        seen.numbers();
        seen.tableNow();
        seen.routes();
        seen.tablesThen();
        seen.registryAndRelations();
        seen.path();
        return seen.text.toString();
    }

    private void tell(String what, Check.Call call) {
        text.append(what).append(' ').append(Check.outcome(call)).append("; ");
    }

    private void numbers() {
        tell("now", x::now);
        tell("updates", x::updates);
        tell("prefixes", x::prefixes);
        tell("contested", x::contested);
        for (int peer = 0; peer < 6; peer++) {
            int p = peer;
            tell("routes", () -> x.routes(p));
        }
    }

    private void tableNow() {
        for (int address : new int[] {0, 64, 100, 255}) {
            tell("lookUp", () -> x.lookUp(address));
            tell("lookUpByScan", () -> x.lookUpByScan(address));
        }
        for (int[] p : new int[][] {{0, 0}, {64, 2}, {96, 3}}) {
            tell("bestPeer", () -> x.bestPeer(p[0], p[1]));
            tell("origins", () -> x.origins(p[0], p[1]));
        }
    }

    private void routes() {
        for (int[] r : ROUTES) {
            for (int place = 0; place < 4; place++) {
                int i = place;
                tell("pathAt", () -> x.pathAt(r[0], r[1], r[2], i));
            }
            tell("verdict", () -> x.verdict(r[0], r[1], r[2]));
            tell("valley", () -> x.valley(r[0], r[1], r[2]));
            tell("isHijack", () -> x.isHijack(r[0], r[1], r[2]));
        }
    }

    private void tablesThen() {
        for (int time : TIMES) {
            for (int address : new int[] {64, 100}) {
                tell("lookUpAt", () -> x.lookUpAt(time, address));
                tell("originAt", () -> x.originAt(time, address));
            }
            tell("changes", () -> x.changes(-1, time));
        }
    }

    private void registryAndRelations() {
        for (int[] r : new int[][] {{1, 9}, {9, 20}, {2, 21}, {1, 2}, {1, 30}}) {
            tell("relate", () -> x.relate(r[0], r[1], 0));
        }
        for (int[] e : new int[][] {{64, 2, 4, 20}, {0, 0, 8, 21}, {0, 0, 8, 1}, {0, 4, 8, 1}}) {
            tell("allow", () -> x.allow(e[0], e[1], e[2], e[3]));
        }
    }

    private void path() {
        tell("hop", () -> x.hop(20));
        tell("hop", () -> x.hop(9));
        for (int peer = 0; peer < 6; peer++) {
            int p = peer;
            tell("announce", () -> x.announce(p, 0, 8));
        }
        for (int place = 0; place < 8; place++) {
            int i = place;
            tell("pathAt", () -> x.pathAt(0, 0, 8, i));
        }
        tell("clearPath", x::clearPath);
    }
}
