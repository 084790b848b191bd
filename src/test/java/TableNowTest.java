/** Promises 10 to 18. */
public final class TableNowTest {
    public static void main(String[] args) {
        routes();
        prefixes();
        pathAt();
        pathAtRefuses();
        bestPeer();
        lookUps();
        lookUpsRefuse();
        origins();
        contested();
        isHijack();
        isHijackRefuses();
        Check.end();
    }

    // Promise 10
    private static void routes() {
        Bgpreplay x = new Bgpreplay();
        Check.path(x, 1);
        Check.due("at first", 0, () -> x.routes(0));
        x.announce(0, 0, 0);
        x.announce(0, 0, 1);
        Check.due("two", 2, () -> x.routes(0));
        x.announce(0, 0, 1);
        Check.due("two, one in place of another", 2, () -> x.routes(0));
        Check.due("of another", 0, () -> x.routes(1));
        Check.path(x, 2).announce(1, 0, 0);
        Check.due("of another", 1, () -> x.routes(1));
        x.withdraw(0, 0, 0);
        Check.due("behind withdraw", 1, () -> x.routes(0));
        x.drop(0);
        Check.due("behind drop", 0, () -> x.routes(0));
        Check.due("of another", 1, () -> x.routes(1));
        Check.due("of the last", 0, () -> x.routes(5));
        Check.peersChecked("routes", x::routes);
    }

    // Promise 11
    private static void prefixes() {
        Bgpreplay x = new Bgpreplay();
        Check.path(x, 1);
        x.announce(0, 0, 0);
        x.announce(0, 0, 8);
        x.announce(0, 255, 8);
        Check.due("three", 3, x::prefixes);
        Check.path(x, 2).announce(1, 0, 8);
        Check.due("one of two peers", 3, x::prefixes);
        x.announce(1, 128, 1);
        Check.due("four", 4, x::prefixes);
        x.withdraw(0, 0, 8);
        Check.due("the other peer has it", 4, x::prefixes);
        x.withdraw(1, 0, 8);
        Check.due("none has it", 3, x::prefixes);
        x.drop(0);
        Check.due("behind drop", 1, x::prefixes);
        x.drop(1);
        Check.due("none", 0, x::prefixes);
    }

    // Promise 12
    private static void pathAt() {
        Bgpreplay x = new Bgpreplay();
        int[] full = {6, 6, 30, 1, 1, 1, 2, 3};
        Check.path(x, full).announce(5, 160, 3);
        for (int place = 0; place < 8; place++) {
            int i = place;
            Check.due("place " + i, full[i], () -> x.pathAt(5, 160, 3, i));
        }
        Check.due("place 8", -1, () -> x.pathAt(5, 160, 3, 8));
        Check.due("the highest place", -1, () -> x.pathAt(5, 160, 3, Check.HIGH));
        Check.path(x, 6).announce(5, 160, 3);
        Check.due("the path in its place", 6, () -> x.pathAt(5, 160, 3, 0));
        Check.due("the path in its place is shorter", -1, () -> x.pathAt(5, 160, 3, 1));
    }

    private static void pathAtRefuses() {
        Bgpreplay x = new Bgpreplay();
        Check.path(x, 1, 2).announce(0, 0, 1);
        Check.indexThrown("place -1", () -> x.pathAt(0, 0, 1, -1));
        Check.indexThrown("the lowest place", () -> x.pathAt(0, 0, 1, Check.LOW));
        Check.peersChecked("pathAt", peer -> x.pathAt(peer, 0, 1, 0));
        Check.prefixesChecked("pathAt", (address, length) -> x.pathAt(0, address, length, 0));
        Check.elementThrown("no route", () -> x.pathAt(0, 128, 1, 0));
        Check.elementThrown("no route, no place", () -> x.pathAt(0, 128, 1, 100));
        Check.elementThrown("no route of the peer", () -> x.pathAt(1, 0, 1, 0));
        Check.indexThrown("no route, place -1", () -> x.pathAt(0, 128, 1, -1));
        Check.indexThrown("no prefix, place -1", () -> x.pathAt(0, 1, 1, -1));
        Check.indexThrown("no peer, no prefix", () -> x.pathAt(6, 1, 1, 0));
    }

    // Promise 13
    private static void bestPeer() {
        Bgpreplay x = new Bgpreplay();
        Check.path(x, 5, 9, 9).announce(4, 64, 2);
        Check.due("the one", 4, () -> x.bestPeer(64, 2));
        Check.path(x, 4, 4, 4).announce(3, 64, 2);
        Check.due("the lower of two", 3, () -> x.bestPeer(64, 2));
        Check.path(x, 6, 9).announce(5, 64, 2);
        Check.due("the shorter one", 5, () -> x.bestPeer(64, 2));
        Check.path(x, 1, 1, 1, 1).announce(0, 64, 2);
        Check.due("side by side ones count", 5, () -> x.bestPeer(64, 2));
        x.withdraw(5, 64, 2);
        Check.due("without the best", 3, () -> x.bestPeer(64, 2));
        Check.path(x, 4, 3, 2, 1, 9).announce(3, 64, 2);
        Check.due("with a longer path", 4, () -> x.bestPeer(64, 2));
        x.drop(4);
        Check.due("behind drop", 0, () -> x.bestPeer(64, 2));
        Check.due("a prefix that is not there", -1, () -> x.bestPeer(64, 3));
        Check.due("a prefix that is not there", -1, () -> x.bestPeer(0, 0));
        x.drop(0);
        x.drop(3);
        Check.due("none is left", -1, () -> x.bestPeer(64, 2));
        Check.prefixesChecked("bestPeer", x::bestPeer);
    }

    // Promises 14 and 15
    private static void lookUps() {
        Bgpreplay x = new Bgpreplay();
        Check.path(x, 1, 9);
        x.announce(0, 64, 2);
        found(x, 64, 2);
        found(x, 127, 2);
        found(x, 63, -1);
        found(x, 128, -1);
        x.announce(0, 100, 8);
        found(x, 100, 8);
        found(x, 99, 2);
        found(x, 101, 2);
        Check.path(x, 2).announce(1, 0, 0);
        found(x, 0, 0);
        found(x, 255, 0);
        found(x, 100, 8);
        found(x, 64, 2);
        x.announce(1, 96, 3);
        found(x, 96, 3);
        found(x, 127, 3);
        found(x, 100, 8);
        found(x, 95, 2);
        x.announce(1, 64, 2);
        x.drop(0);
        found(x, 100, 3);
        found(x, 64, 2);
        x.withdraw(1, 64, 2);
        found(x, 64, 0);
        x.withdraw(1, 0, 0);
        found(x, 64, -1);
        found(x, 100, 3);
    }

    private static void found(Bgpreplay x, int address, int length) {
        Check.due("lookUp(" + address + ")", length, () -> x.lookUp(address));
        Check.due("lookUpByScan(" + address + ")", length, () -> x.lookUpByScan(address));
    }

    private static void lookUpsRefuse() {
        Bgpreplay x = new Bgpreplay();
        Check.addressesChecked("lookUp", x::lookUp);
        Check.addressesChecked("lookUpByScan", x::lookUpByScan);
        Check.path(x, 1).announce(0, 0, 0);
        Check.addressesChecked("lookUp", x::lookUp);
        Check.addressesChecked("lookUpByScan", x::lookUpByScan);
    }

    // Promise 16
    private static void origins() {
        Bgpreplay x = new Bgpreplay();
        Check.due("none", 0, () -> x.origins(0, 1));
        Check.path(x, 1, 30).announce(0, 0, 1);
        Check.path(x, 2, 9, 30).announce(1, 0, 1);
        Check.due("the same", 1, () -> x.origins(0, 1));
        Check.path(x, 3).announce(2, 0, 1);
        Check.due("two", 2, () -> x.origins(0, 1));
        Check.path(x, 4, 3).announce(3, 0, 1);
        Check.due("two still", 2, () -> x.origins(0, 1));
        Check.path(x, 5, 1).announce(4, 0, 1);
        Check.path(x, 6, 6).announce(5, 0, 1);
        Check.due("four", 4, () -> x.origins(0, 1));
        Check.due("of a longer prefix", 0, () -> x.origins(0, 2));
        Check.due("of a shorter prefix", 0, () -> x.origins(0, 0));
        Check.path(x, 5, 30).announce(4, 0, 1);
        Check.due("another origin in place", 3, () -> x.origins(0, 1));
        x.drop(5);
        Check.due("behind drop", 2, () -> x.origins(0, 1));
        Check.path(x, 1, 11).announce(0, 0, 1);
        Check.path(x, 2, 12).announce(1, 0, 1);
        Check.path(x, 3, 13).announce(2, 0, 1);
        Check.path(x, 4, 14).announce(3, 0, 1);
        Check.path(x, 5, 15).announce(4, 0, 1);
        Check.path(x, 6, 16).announce(5, 0, 1);
        Check.due("six", 6, () -> x.origins(0, 1));
        Check.prefixesChecked("origins", x::origins);
    }

    // Promise 17
    private static void contested() {
        Bgpreplay x = new Bgpreplay();
        Check.path(x, 1, 9);
        x.announce(0, 0, 0);
        x.announce(0, 255, 8);
        x.announce(0, 128, 1);
        Check.path(x, 2, 8, 9).announce(1, 0, 0);
        Check.due("the same origin", 0, x::contested);
        x.hop(10);
        x.announce(1, 0, 0);
        Check.due("one", 1, x::contested);
        Check.path(x, 3).announce(2, 0, 0);
        Check.due("one of three origins", 1, x::contested);
        x.announce(2, 255, 8);
        Check.due("two", 2, x::contested);
        x.announce(2, 128, 1);
        Check.due("three", 3, x::contested);
        x.withdraw(0, 0, 0);
        Check.due("still unlike", 3, x::contested);
        x.drop(2);
        Check.due("none", 0, x::contested);
    }

    // Promise 18
    private static void isHijack() {
        Bgpreplay x = new Bgpreplay();
        Check.path(x, 1, 20).announce(0, 64, 2);
        Check.due("no shorter one", false, () -> x.isHijack(0, 64, 2));
        Check.path(x, 2, 21).announce(1, 64, 4);
        Check.due("another origin", true, () -> x.isHijack(1, 64, 4));
        Check.due("longer ones do not matter", false, () -> x.isHijack(0, 64, 2));
        Check.path(x, 2, 21).announce(1, 128, 4);
        Check.due("no shorter one covers it", false, () -> x.isHijack(1, 128, 4));
        Check.path(x, 3, 9, 21).announce(2, 64, 2);
        Check.due("one of two routes has its origin", false, () -> x.isHijack(1, 64, 4));
        Check.path(x, 4, 22).announce(3, 64, 3);
        Check.due("the longest shorter one decides", true, () -> x.isHijack(1, 64, 4));
        Check.due("the one above", true, () -> x.isHijack(3, 64, 3));
        x.withdraw(3, 64, 3);
        Check.due("without the longest shorter one", false, () -> x.isHijack(1, 64, 4));
        Check.path(x, 5, 21).announce(4, 0, 0);
        Check.path(x, 6, 23).announce(5, 255, 8);
        Check.due("the whole covers it", true, () -> x.isHijack(5, 255, 8));
        Check.due("the whole itself", false, () -> x.isHijack(4, 0, 0));
        Check.path(x, 6, 23).announce(5, 254, 7);
        Check.due("a route of its own peer", false, () -> x.isHijack(5, 255, 8));
        Check.path(x, 1, 30).announce(0, 255, 8);
        Check.due("of two peers the one is", true, () -> x.isHijack(0, 255, 8));
        Check.due("and the other one is not", false, () -> x.isHijack(5, 255, 8));
    }

    private static void isHijackRefuses() {
        Bgpreplay x = new Bgpreplay();
        Check.path(x, 1).announce(0, 0, 0);
        Check.peersChecked("isHijack", peer -> x.isHijack(peer, 0, 0));
        Check.indexThrown("no peer, no prefix", () -> x.isHijack(6, 0, 9));
        Check.prefixesChecked("isHijack", (address, length) -> x.isHijack(0, address, length));
        Check.elementThrown("no route", () -> x.isHijack(0, 0, 1));
        Check.elementThrown("no route of the peer", () -> x.isHijack(1, 0, 0));
    }
}
