/** Counts and prints the answers that are not as due. */
final class Check {
    private static int wrong = 0;

    private Check() {
    }

    interface Call {
        Object answer();
    }

    /** The answer of a call, or "throws " and the exact class of what it throws. */
    static String outcome(Call call) {
        try {
            return String.valueOf(call.answer());
        } catch (RuntimeException e) {
            return "throws " + e.getClass().getName();
        }
    }

    static void due(String what, Object want, Call call) {
        same(what, String.valueOf(want), outcome(call));
    }

    static void indexThrown(String what, Call call) {
        thrown(what, IndexOutOfBoundsException.class, call);
    }

    static void argumentThrown(String what, Call call) {
        thrown(what, IllegalArgumentException.class, call);
    }

    static void stateThrown(String what, Call call) {
        thrown(what, IllegalStateException.class, call);
    }

    static void elementThrown(String what, Call call) {
        thrown(what, java.util.NoSuchElementException.class, call);
    }

    private static void thrown(String what, Class<?> want, Call call) {
        same(what, "throws " + want.getName(), outcome(call));
    }

    static void same(String what, String want, String got) {
        if (!want.equals(got)) {
            wrong++;
            System.out.println(what + ": answered " + got + ", due is " + want);
        }
    }

    static void that(String what, boolean holds) {
        same(what, "true", String.valueOf(holds));
    }

    /** A sentence of the document that names a boundary case, and the test of its own that it has. */
    static void holds(String sentence, Runnable test) {
        int before = wrong;
        try {
            test.run();
        } catch (RuntimeException e) {
            wrong++;
            System.out.println("a call that is due to answer throws " + e);
        }
        if (wrong > before) {
            System.out.println("so this does not hold: " + sentence);
        }
    }

    interface Refused {
        void callOn(Bgpreplay x);
    }

    interface Made {
        Bgpreplay anew();
    }

    /** "A call that throws changes nothing": the object answers like one on which nothing was refused. */
    static void unchanged(Made made, Refused refused) {
        Bgpreplay x = made.anew();
        refused.callOn(x);
        same("what is seen behind refused calls", Seen.of(made.anew()), Seen.of(x));
    }

    static int wrongSoFar() {
        return wrong;
    }

    /** To be called last in a test's main method. */
    static void end() {
        if (wrong != 0) {
            System.out.println(wrong + " answers are not as due");
            System.exit(1);
        }
    }

    /** Makes the path anew. */
    static Bgpreplay path(Bgpreplay x, int... networks) {
        x.clearPath();
        for (int network : networks) {
            x.hop(network);
        }
        return x;
    }

    static final int LOW = Integer.MIN_VALUE, HIGH = Integer.MAX_VALUE;

    /** Addresses and lengths that tell no prefix. */
    static final int[][] NO_PREFIXES = {
        {0, -1}, {0, 9}, {-1, 8}, {256, 8}, {256, 0}, {-256, 0}, {1, 7}, {1, 0}, {128, 0}, {64, 1}, {254, 6}, {255, 7},
        {LOW, 8}, {HIGH, 8}, {LOW, 0}, {0, LOW}, {0, HIGH}, {LOW, LOW}, {HIGH, HIGH}, {0, 32}, {0, 40}, {0, -24},
    };

    static final int[] NO_PEERS = {-1, 6, 7, LOW, HIGH};
    static final int[] NO_NETWORKS = {0, 31, -1, 32, 33, 62, 63, -31, LOW, HIGH};
    static final int[] NO_ADDRESSES = {-1, 256, 257, LOW, HIGH};

    interface OfPeer {
        Object answer(int peer);
    }

    static void peersChecked(String what, OfPeer call) {
        for (int peer : NO_PEERS) {
            indexThrown(what + " of peer " + peer, () -> call.answer(peer));
        }
    }

    interface OfPrefix {
        Object answer(int address, int length);
    }

    static void prefixesChecked(String what, OfPrefix call) {
        for (int[] no : NO_PREFIXES) {
            argumentThrown(what + " of " + no[0] + "/" + no[1], () -> call.answer(no[0], no[1]));
        }
    }

    interface OfAddress {
        Object answer(int address);
    }

    static void addressesChecked(String what, OfAddress call) {
        for (int address : NO_ADDRESSES) {
            indexThrown(what + " of " + address, () -> call.answer(address));
        }
    }
}
