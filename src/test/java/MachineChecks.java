import java.util.NoSuchElementException;

/** What the tests of single machines share: names of what is due, images that bring about an edge, and checks. */
abstract class MachineChecks {
    static final Class<IllegalArgumentException> ARGUMENT = IllegalArgumentException.class;
    static final Class<IllegalStateException> STATE = IllegalStateException.class;
    static final Class<IndexOutOfBoundsException> INDEX = IndexOutOfBoundsException.class;
    static final Class<NoSuchElementException> NONE = NoSuchElementException.class;

    static final int UNKNOWN = 1;
    static final int DEEP = 2;
    static final int TIRED = 3;
    static final int FULL = 4;
    static final int REFUSED = 5;
    static final int MISSING = 6;
    static final int SEALED = 7;
    static final int CROWDED = 8;

    static final int[] NO_IMAGES = {-1, 8, 9, 1 << 16, Integer.MIN_VALUE, Integer.MAX_VALUE};
    static final int[] NO_BLOBS = {-1, 8, 9, 1 << 16, Integer.MIN_VALUE, Integer.MAX_VALUE};
    static final int[] NO_REGISTERS = {-1, 6, 7, 1 << 16, Integer.MIN_VALUE, Integer.MAX_VALUE};
    static final int[] NO_MASKS = {0, -1, 64, 65, 127, (1 << 16) + 1, Integer.MIN_VALUE, Integer.MAX_VALUE};

    static final long[] EDGE_LONGS = {0, 1, -1, Long.MIN_VALUE, Long.MAX_VALUE, 1L << 32, -1L << 32};

    static final Checks CHECKS = new Checks();

    /** The fault of a boot; a boot that throws has one, and another has none. */
    static int boot(MeasuredStages x, int n) {
        boolean thrown = false;
        try {
            int launched = x.boot(n);
            CHECKS.due("the answer of boot", launched, x.launched());
        } catch (IllegalStateException stopped) {
            thrown = true;
        }
        CHECKS.due("a boot throws when it has a fault", thrown, x.fault() != 0);
        return x.fault();
    }

    static void stops(String what, MeasuredStages x, int n, int fault) {
        CHECKS.throwsDue(what + ": boot", STATE, () -> x.boot(n));
        CHECKS.due(what + ": fault", x.fault(), fault);
    }

    /** Extends a register that holds 0 once, so that it holds the value. */
    static void hold(MeasuredStages x, int r, long value) {
        x.extend(r, Checks.valueFor(0, value));
    }

    /** Image n launches image n + 1, as far as the one at depth d, which is the last. */
    static void chainTo(MeasuredStages x, int d, long last) {
        for (int n = 0; n < d; n++) {
            x.image(n, Checks.code(1, n + 1));
        }
        x.image(d, last);
    }

    /** 96 steps of 12 launches are done when the last four instructions of image 2 begin: these are given. */
    static void beforeStep101(MeasuredStages x, long rest) {
        x.image(0, Checks.code(1, 1, 1, 1, 1, 1, 1, 1, 1, 1, 1, 1, 1, 1, 1, 2));
        x.image(1, Checks.code(5, 1, 5, 1, 5, 1, 5, 1, 5, 1, 5, 1, 5, 1, 5, 1));
        x.image(2, Checks.code(1, 1, 1, 1, 1, 4) | rest << 24);
        x.image(4, Checks.code(5, 1, 5, 1, 5, 1));
    }

    /** The last image, the given one, begins at depth 5 with 96 steps done and 32 events in the log. */
    static void fullAtDepth5(MeasuredStages x, long last) {
        x.image(0, Checks.code(1, 6, 1, 6, 1, 6, 1, 6, 1, 6, 1, 7, 1, 7, 1, 1));
        x.image(1, Checks.code(1, 6, 1, 6, 1, 2));
        x.image(2, Checks.code(6, 0, 1, 3));
        x.image(3, Checks.code(1, 4));
        x.image(4, Checks.code(1, 5));
        x.image(5, last);
        x.image(6, Checks.code(5, 1, 5, 1, 5, 1, 5, 1, 5, 1, 5, 1, 5, 1, 5, 1));
        x.image(7, Checks.code(6, 0, 6, 1, 6, 2, 6, 3, 6, 4, 6, 5, 6, 0, 6, 1));
    }

    /** ACC when it began with 0 and was so often hashed with 1. */
    static long hashed(int times) {
        long acc = 0;
        for (int time = 0; time < times; time++) {
            acc = Checks.h(acc, 1);
        }
        return acc;
    }

    /** Blob k, open now, closes when a register of the mask holds something else, and only then. */
    static void onlyRegisters(String what, MeasuredStages x, int k, int mask) {
        for (int r = 0; r < 6; r++) {
            long secret = x.unseal(k);
            long before = x.register(r);
            x.extend(r, 1);
            if ((mask >> r & 1) == 1) {
                CHECKS.throwsDue(what + ": register " + r + " closes it", STATE, () -> x.unseal(k));
            } else {
                CHECKS.due(what + ": register " + r + " is none of it", x.unseal(k), secret);
            }
            x.extend(r, Checks.valueFor(x.register(r), before));
            CHECKS.due(what + ": register " + r + " as before opens it", x.unseal(k), secret);
        }
    }
}
