import java.util.Random;

/**
 * Long rows of calls, each answered by the program and by the plain model. The seeds are written down, so that
 * every run makes the same calls. A class's exact name is compared: what the Java machine throws by itself is
 * never right. Rows go on behind the 512th call, where the document promises nothing, so that they also reach
 * the limit of updates; the program does not tell these calls from the others.
 */
public final class AgainstModelTest {
    private static final int[] WILD = {Integer.MIN_VALUE, -257, -9, -1, 0, 1, 6, 7, 8, 9, 30, 31, 32, 255, 256, 257,
        511, 512, 1000, 1001, 1000000, Integer.MAX_VALUE};

    private static final int STEPS = 1500;

    private final Random random;
    private final int kind;
    private final Bgpreplay real = new Bgpreplay();
    private final PlainModel model = new PlainModel();

    private AgainstModelTest(long seed) {
        random = new Random(seed);
        kind = (int) (seed % 4);
    }

    public static void main(String[] args) {
        boolean filled = false;
        for (long seed = 0; seed < 200; seed++) {
            AgainstModelTest row = new AgainstModelTest(seed);
            row.run();
            filled |= row.model.updates() == 300;
            if (Check.wrongSoFar() > 0) {
                System.out.println("in the row of seed " + seed);
                break;
            }
        }
        Check.that("a row reaches the limit of updates", filled);
        Check.end();
    }

    private void run() {
        for (int call = 0; call < STEPS && Check.wrongSoFar() == 0; call++) {
            step();
        }
        for (int address = 0; address < 256; address++) {
            int a = address;
            both("lookUp " + a, () -> real.lookUp(a), () -> model.lookUp(a));
            both("lookUpByScan " + a, () -> real.lookUpByScan(a), () -> model.lookUp(a));
        }
    }

    private void both(String what, Check.Call ofReal, Check.Call ofModel) {
        Check.same(what, Check.outcome(ofModel), Check.outcome(ofReal));
    }

    private boolean one(int of) {
        return random.nextInt(of) == 0;
    }

    private int wildOr(int tame) {
        return one(60) ? WILD[random.nextInt(WILD.length)] : tame;
    }

    private int network() {
        return wildOr(1 + random.nextInt(kind == 0 ? 30 : 8));
    }

    /** An address and a length: mostly of a prefix, and in two kinds of rows mostly of the same few ones. */
    private int[] prefix() {
        int length = kind < 2 ? random.nextInt(9) : random.nextInt(4);
        int address = random.nextInt(256) >> 8 - length << 8 - length;
        if (kind == 1) {
            address = 255 >> 8 - length << 8 - length;
        }
        return new int[] {wildOr(address), wildOr(length)};
    }

    private int timeThen() {
        return wildOr(random.nextInt(real.now() + 3) - 1);
    }

    private void step() {
        int choice = random.nextInt(100);
        if (choice < 40) {
            update();
        } else if (choice < 50) {
            pathAndTime();
        } else if (choice < 75) {
            tableNow();
        } else if (choice < 90) {
            registryAndRelations();
        } else {
            otherTimes();
        }
    }

    private void makePath(int peer) {
        both("clearPath", real::clearPath, model::clearPath);
        hop(peer + 1);
        for (int i = random.nextInt(one(4) ? 12 : 5); i > 0; i--) {
            hop(network());
        }
    }

    private void hop(int network) {
        both("hop " + network, () -> real.hop(network), () -> model.hop(network));
    }

    private void update() {
        int peer = wildOr(random.nextInt(kind == 3 ? 3 : 6));
        int[] p = prefix();
        if (one(25)) {
            both("drop " + peer, () -> real.drop(peer), () -> model.drop(peer));
        } else if (one(4)) {
            both("withdraw", () -> real.withdraw(peer, p[0], p[1]), () -> model.withdraw(peer, p[0], p[1]));
        } else {
            if (!one(5)) {
                makePath(peer);
            }
            both("announce", () -> real.announce(peer, p[0], p[1]), () -> model.announce(peer, p[0], p[1]));
        }
        both("updates", real::updates, model::updates);
    }

    private void pathAndTime() {
        if (one(2)) {
            int ticks = wildOr(1 + random.nextInt(3));
            both("pass " + ticks, () -> real.pass(ticks), () -> model.pass(ticks));
        } else {
            hop(network());
        }
        both("now", real::now, model::now);
    }

    private void tableNow() {
        int peer = wildOr(random.nextInt(6));
        int[] p = prefix();
        int address = wildOr(random.nextInt(256));
        int place = wildOr(random.nextInt(8));
        switch (random.nextInt(8)) {
            case 0 -> both("routes", () -> real.routes(peer), () -> model.routes(peer));
            case 1 -> both("prefixes", real::prefixes, model::prefixes);
            case 2 -> both("pathAt", () -> real.pathAt(peer, p[0], p[1], place),
                () -> model.pathAt(peer, p[0], p[1], place));
            case 3 -> both("bestPeer", () -> real.bestPeer(p[0], p[1]), () -> model.bestPeer(p[0], p[1]));
            case 4 -> {
                both("lookUp", () -> real.lookUp(address), () -> model.lookUp(address));
                both("lookUpByScan", () -> real.lookUpByScan(address), () -> model.lookUp(address));
            }
            case 5 -> both("origins", () -> real.origins(p[0], p[1]), () -> model.origins(p[0], p[1]));
            case 6 -> both("contested", real::contested, model::contested);
            default -> both("isHijack", () -> real.isHijack(peer, p[0], p[1]), () -> model.isHijack(peer, p[0], p[1]));
        }
    }

    private void registryAndRelations() {
        int peer = wildOr(random.nextInt(6));
        int[] p = prefix();
        int network = network();
        int other = network();
        int longest = wildOr(p[1] < 0 || p[1] > 8 ? 8 : p[1] + random.nextInt(9 - p[1]));
        int relation = wildOr(random.nextInt(4));
        switch (random.nextInt(4)) {
            case 0 -> both("allow", () -> real.allow(p[0], p[1], longest, network),
                () -> model.allow(p[0], p[1], longest, network));
            case 1 -> both("verdict", () -> real.verdict(peer, p[0], p[1]), () -> model.verdict(peer, p[0], p[1]));
            case 2 -> both("relate", () -> real.relate(network, other, relation),
                () -> model.relate(network, other, relation));
            default -> both("valley", () -> real.valley(peer, p[0], p[1]), () -> model.valley(peer, p[0], p[1]));
        }
    }

    private void otherTimes() {
        int then = timeThen();
        int other = timeThen();
        int address = wildOr(random.nextInt(256));
        both("lookUpAt", () -> real.lookUpAt(then, address), () -> model.lookUpAt(then, address));
        both("originAt", () -> real.originAt(then, address), () -> model.originAt(then, address));
        both("changes", () -> real.changes(then, other), () -> model.changes(then, other));
    }
}
