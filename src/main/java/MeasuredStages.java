import java.util.Arrays;
import java.util.NoSuchElementException;

/**
 * A machine that starts by a chain of images. Each image is measured into a register before it
 * runs; a log notes what was measured; secrets are sealed to what the registers hold.
 */
public final class MeasuredStages {
    private static final int IMAGES = 8;
    private static final int DIGITS = 16;
    private static final int STEPS_AT_MOST = 100;
    private static final int GREATEST_MASK = 63;

    private static final long DIGEST_SALT = 5;
    private static final long POLICY_SALT = 9;

    private static final int NO_FAULT = 0;
    private static final int UNKNOWN = 1;
    private static final int DEEP = 2;
    private static final int TIRED = 3;
    private static final int FULL = 4;
    private static final int REFUSED = 5;
    private static final int MISSING = 6;
    private static final int SEALED = 7;
    private static final int CROWDED = 8;

    private final long[] images;
    private final boolean[] approved;
    private final long[] approvedDigests;
    private final Registers registers;
    private final Blobs blobs;

    // A boot keeps its own stack in these rows, so that it makes no object and does not recurse:
    // at each depth the image that runs there and the digit that it reads next. The depth is that
    // of the image that runs; -1 when the first one has ended.
    private final long[] running;
    private final int[] nextDigits;
    private int depth;

    private long acc;
    private int fault;
    private int launched;
    private int steps;

    public MeasuredStages() {
        images = new long[IMAGES];
        approved = new boolean[IMAGES];
        approvedDigests = new long[IMAGES];
        registers = new Registers();
        blobs = new Blobs();
        running = new long[Registers.COUNT];
        nextDigits = new int[Registers.COUNT];
    }

    public void image(int n, long code) throws IllegalArgumentException {
        if (!isImage(n)) {
            throw new IllegalArgumentException("an image's number is 0 .. 7");
        }
        images[n] = code;
    }

    public void approve(int n) throws IllegalArgumentException {
        if (!isImage(n)) {
            throw new IllegalArgumentException("an image's number is 0 .. 7");
        }
        approved[n] = true;
        approvedDigests[n] = digestOf(n);
    }

    public int boot(int n) throws IllegalArgumentException, IllegalStateException {
        if (!isImage(n)) {
            throw new IllegalArgumentException("an image's number is 0 .. 7");
        }
        clearForBoot();
        fault = launchAt(0, n);
        runToTheEnd();
        if (fault != NO_FAULT) {
            throw new IllegalStateException("a fault stopped the boot");
        }
        return launched;
    }

    public int fault() {
        return fault;
    }

    public int launched() {
        return launched;
    }

    public int steps() {
        return steps;
    }

    public long acc() {
        return acc;
    }

    public long register(int r) throws IndexOutOfBoundsException {
        if (!Registers.isRegister(r)) {
            throw new IndexOutOfBoundsException("a register's number is 0 .. 5");
        }
        return registers.held[r];
    }

    public void extend(int r, long v) throws IndexOutOfBoundsException, IllegalStateException {
        if (!Registers.isRegister(r)) {
            throw new IndexOutOfBoundsException("a register's number is 0 .. 5");
        }
        if (!registers.measure(r, v)) {
            throw new IllegalStateException("the log is full");
        }
    }

    public int events() {
        return registers.eventCount;
    }

    public int eventRegister(int k) throws NoSuchElementException {
        if (!registers.hasEvent(k)) {
            throw new NoSuchElementException("the log has no such event");
        }
        return registers.eventRegisters[k];
    }

    public long eventValue(int k) throws NoSuchElementException {
        if (!registers.hasEvent(k)) {
            throw new NoSuchElementException("the log has no such event");
        }
        return registers.eventValues[k];
    }

    public void tamper(int k, long x) throws NoSuchElementException {
        if (!registers.hasEvent(k)) {
            throw new NoSuchElementException("the log has no such event");
        }
        registers.eventValues[k] ^= x;
    }

    public boolean replays() {
        return registers.agreeWithLog();
    }

    public int seal(int mask, long secret) throws IllegalArgumentException, IllegalStateException {
        if (!isMask(mask)) {
            throw new IllegalArgumentException("a mask is 1 .. 63");
        }
        int k = blobs.leastFree();
        if (k == Blobs.NONE) {
            throw new IllegalStateException("no blob is free");
        }
        blobs.fill(k, mask, registers.policyOf(mask), secret);
        return k;
    }

    public long unseal(int k) throws NoSuchElementException, IllegalStateException {
        if (!blobs.isTaken(k)) {
            throw new NoSuchElementException("there is no such blob, or it is free");
        }
        if (!isOpen(k)) {
            throw new IllegalStateException("the blob is sealed to other registers");
        }
        return blobs.secrets[k];
    }

    public void discard(int k) throws NoSuchElementException {
        if (!blobs.isTaken(k)) {
            throw new NoSuchElementException("there is no such blob, or it is free");
        }
        blobs.free(k);
    }

    public long quote(long key, long nonce, int mask) throws IllegalArgumentException {
        if (!isMask(mask)) {
            throw new IllegalArgumentException("a mask is 1 .. 63");
        }
        return hash(hash(key, nonce), registers.policyOf(mask));
    }

    private static long hash(long a, long b) {
        long x = (a ^ 1442695040888963407L) * 6364136223846793005L + b;
        x = x ^ (x >>> 32);
        x = x * 2862933555777941757L;
        return x ^ (x >>> 29);
    }

    private static boolean isImage(int n) {
        return n >= 0 && n < IMAGES;
    }

    private static boolean isMask(int mask) {
        return mask >= 1 && mask <= GREATEST_MASK;
    }

    private long digestOf(int n) {
        return hash(DIGEST_SALT, images[n]);
    }

    private boolean isOpen(int k) {
        return blobs.policies[k] == registers.policyOf(blobs.masks[k]);
    }

    private void clearForBoot() {
        registers.clear();
        acc = 0;
        launched = 0;
        steps = 0;
    }

    private void runToTheEnd() {
        // One turn more than there can be steps: the last one meets the fault TIRED.
        for (int turn = 0; turn <= STEPS_AT_MOST && fault == NO_FAULT && depth >= 0; turn++) {
            fault = doInstruction();
            if (fault == NO_FAULT) {
                steps++;
            }
        }
    }

    /** Does one instruction of the deepest image; answers its fault, and does nothing if it has one. */
    private int doInstruction() {
        if (steps >= STEPS_AT_MOST) {
            return TIRED;
        }
        switch (takeDigit()) {
            case 0:
                depth--;
                return NO_FAULT;
            case 1:
                return launchAt(depth + 1, takeImage());
            case 2:
                return extendOrFault(takeRegister(), takeDigit());
            case 3:
                return isApproved(takeImage()) ? NO_FAULT : REFUSED;
            case 4:
                return loadSecret(takeDigit() % Blobs.COUNT);
            case 5:
                acc = hash(acc, takeDigit());
                return NO_FAULT;
            case 6:
                return extendOrFault(takeRegister(), acc);
            case 7:
                passOverIfZero(takeDigit());
                return NO_FAULT;
            case 8:
                return sealAcc(takeDigit() + 1);
            default:
                return UNKNOWN;
        }
    }

    private int takeDigit() {
        int i = nextDigits[depth];
        nextDigits[depth] = i + 1;
        return i < DIGITS ? (int) (running[depth] >>> (4 * i)) & 15 : 0;
    }

    private int takeImage() {
        return takeDigit() % IMAGES;
    }

    private int takeRegister() {
        return takeDigit() % Registers.COUNT;
    }

    private int launchAt(int d, int n) {
        // The document has DEEP looked at before the log.
        if (d >= Registers.COUNT) {
            return DEEP;
        }
        int refusal = extendOrFault(d, digestOf(n));
        if (refusal != NO_FAULT) {
            return refusal;
        }
        launched++;
        running[d] = images[n];
        nextDigits[d] = 0;
        depth = d;
        return NO_FAULT;
    }

    private int extendOrFault(int r, long v) {
        return registers.measure(r, v) ? NO_FAULT : FULL;
    }

    private boolean isApproved(int n) {
        return approved[n] && approvedDigests[n] == digestOf(n);
    }

    private int loadSecret(int k) {
        if (!blobs.isTaken(k)) {
            return MISSING;
        }
        if (!isOpen(k)) {
            return SEALED;
        }
        acc = blobs.secrets[k];
        return NO_FAULT;
    }

    private void passOverIfZero(int digits) {
        if (acc == 0) {
            nextDigits[depth] += digits;
        }
    }

    private int sealAcc(int mask) {
        int k = blobs.leastFree();
        if (k == Blobs.NONE) {
            return CROWDED;
        }
        blobs.fill(k, mask, registers.policyOf(mask), acc);
        return NO_FAULT;
    }

    /** The registers with the log of what they were extended by. */
    private static final class Registers {
        static final int COUNT = 6;
        static final int EVENTS_AT_MOST = 32;

        final long[] held = new long[COUNT];
        final int[] eventRegisters = new int[EVENTS_AT_MOST];
        final long[] eventValues = new long[EVENTS_AT_MOST];
        int eventCount;

        // Kept for the next replay, so that a replay makes no object.
        final long[] replayed = new long[COUNT];

        static boolean isRegister(int r) {
            return r >= 0 && r < COUNT;
        }

        boolean hasEvent(int k) {
            return k >= 0 && k < eventCount;
        }

        void clear() {
            Arrays.fill(held, 0);
            eventCount = 0;
        }

        /** Extends register r by v and notes it; does nothing and answers false when the log is full. */
        boolean measure(int r, long v) {
            if (eventCount >= EVENTS_AT_MOST) {
                return false;
            }
            held[r] = hash(held[r], v);
            eventRegisters[eventCount] = r;
            eventValues[eventCount] = v;
            eventCount++;
            return true;
        }

        boolean agreeWithLog() {
            Arrays.fill(replayed, 0);
            for (int k = 0; k < eventCount; k++) {
                int r = eventRegisters[k];
                replayed[r] = hash(replayed[r], eventValues[k]);
            }
            for (int r = 0; r < COUNT; r++) {
                if (replayed[r] != held[r]) {
                    return false;
                }
            }
            return true;
        }

        long policyOf(int mask) {
            long policy = hash(POLICY_SALT, mask);
            for (int r = 0; r < COUNT; r++) {
                if ((mask >> r & 1) == 1) {
                    policy = hash(policy, held[r]);
                }
            }
            return policy;
        }
    }

    /** The places for sealed secrets. A mask is never 0, so a blob whose mask is 0 is free. */
    private static final class Blobs {
        static final int COUNT = 8;
        static final int NONE = -1;

        final int[] masks = new int[COUNT];
        final long[] policies = new long[COUNT];
        final long[] secrets = new long[COUNT];

        boolean isTaken(int k) {
            return k >= 0 && k < COUNT && masks[k] != 0;
        }

        int leastFree() {
            for (int k = 0; k < COUNT; k++) {
                if (masks[k] == 0) {
                    return k;
                }
            }
            return NONE;
        }

        void fill(int k, int mask, long policy, long secret) {
            masks[k] = mask;
            policies[k] = policy;
            secrets[k] = secret;
        }

        void free(int k) {
            masks[k] = 0;
        }
    }
}
