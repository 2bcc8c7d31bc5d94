import java.util.function.ToLongFunction;

/**
 * The boundary cases that the document's head and its "Terms" name, but for those of launching, in the
 * document's order: above each test stands the sentence that it is for.
 */
public final class TermsEdgesTest extends MachineChecks {
    public static void main(String[] args) {
        theLastOf512CallsIsStillRight();
        everyCallMayBeMadeUntilThe512th();
        hWraps();
        hCanBe0();
        registersHoldAnyLong();
        extendingTakesWhatTheRegisterHeld();
        eventsArePutAtTheEnd();
        theLogHas32Events();
        imagesAreAnyLong();
        digit15IsRead();
        digitsBeyond15Are0();
        operandsBeyondDigit15Are0();
        aDigestOf0IsNoApproval();
        anApprovedDigestMayBe0();
        blobsAreEightWithAnySecret();
        everyMaskHasItsRegisters();
        theMaskItselfIsInThePolicy();
        aPolicyMayBe0();
        sealingTakesTheLeastFree();
        openWhenHeldAgain();
        aThrowChangesNothing();
        theFirstNamedIsThrown();
        CHECKS.finish("TermsEdgesTest");
    }

    // "An object is used for at most 512 calls after it has been made"

    private static void theLastOf512CallsIsStillRight() {
        MeasuredStages x = new MeasuredStages();
        beforeStep101(x, Checks.code(5, 1, 5, 1, 5, 1, 5, 1));
        // Four calls set the images.
        for (int call = 5; call < 512; call++) {
            CHECKS.throwsDue("call " + call + " of 512", STATE, () -> x.boot(0));
        }
        CHECKS.due("call 512 of 512", x.steps(), 100);
    }

    private static void everyCallMayBeMadeUntilThe512th() {
        again("fault", 1, UNKNOWN, MeasuredStages::fault);
        again("launched", 1, 2, MeasuredStages::launched);
        again("steps", 1, 2, MeasuredStages::steps);
        again("acc", 1, Checks.h(0, 4), MeasuredStages::acc);
        again("register", 1, Checks.h(0, 6), x -> x.register(4));
        again("events", 1, 3, MeasuredStages::events);
        again("eventRegister", 1, 4, x -> x.eventRegister(2));
        again("eventValue", 1, Checks.digest(9), x -> x.eventValue(1));
        again("unseal", 1, 77, x -> x.unseal(0));
        again("quote", 1, Checks.h(Checks.h(3, 4), Checks.h(Checks.h(9, 32), 0)), x -> x.quote(3, 4, 32));
        again("image, approve, boot, extend", 4, 1, x -> {
            x.image(2, 0);
            x.approve(2);
            int launched = x.boot(2);
            x.extend(4, 6);
            return launched;
        });
        again("tamper, replays", 4, 1, x -> {
            x.tamper(1, 8);
            boolean tampered = !x.replays();
            x.tamper(1, 8);
            return x.replays() && tampered ? 1 : 0;
        });
        again("seal, discard", 2, 1, x -> {
            int k = x.seal(63, 5);
            x.discard(k);
            return k;
        });
    }

    /** After a life of five calls, the same turn answers the same as often as 512 calls allow. */
    private static void again(String what, int calls, long want, ToLongFunction<MeasuredStages> turn) {
        MeasuredStages x = new MeasuredStages();
        x.image(0, Checks.code(5, 4, 1, 1));
        x.image(1, Checks.code(9));
        x.seal(32, 77);
        CHECKS.throwsDue(what + ": boot", STATE, () -> x.boot(0));
        x.extend(4, 6);
        for (int done = 5; done + calls <= 512; done += calls) {
            CHECKS.due(what + " after " + done + " calls", turn.applyAsLong(x), want);
        }
    }

    // "H(a, b), for longs that wrap: x = (a ^ 1442695040888963407) * 6364136223846793005 + b; then
    // x = x ^ (x >>> 32); then x = x * 2862933555777941757; H is x ^ (x >>> 29)."
    // The answers were worked out apart from any Java.

    private static void hWraps() {
        long min = Long.MIN_VALUE;
        long max = Long.MAX_VALUE;
        long[][] known = {
            {0, 0, 9066295969781249411L}, {0, 1, 4934219665528011946L}, {0, -1, 6203362406401804874L},
            {0, min, -5045830784953448041L}, {0, max, -7908764305341626954L},
            {-1, 0, 3370876598814348730L}, {-1, -1, 507943048448723429L},
            {min, min, 9066295969781249411L}, {max, max, 507943048448723429L},
            {min, max, 6203362406401804874L}, {max, min, 3370876598814348730L},
            {1442695040888963407L, 0, 0}, {1442695040888963407L, 1, 2862933560923899849L},
            {1442695040888963407L, -1, 8669234672392894488L}, {1L << 32, 1 << 29, -6862764421923484617L},
            {5, 0, -7200059895589468756L}, {9, 1, -3959954903220004309L}, {9, 63, 3005605354118531512L}};
        for (long[] row : known) {
            MeasuredStages x = new MeasuredStages();
            hold(x, 3, row[0]);
            x.extend(3, row[1]);
            CHECKS.due("H(" + row[0] + ", " + row[1] + ")", x.register(3), row[2]);
        }
    }

    private static void hCanBe0() {
        MeasuredStages x = new MeasuredStages();
        hold(x, 0, 0);
        CHECKS.due("extended to 0: register", x.register(0), 0);
        CHECKS.due("extended to 0: events", x.events(), 1);
        CHECKS.due("extended to 0: replays", x.replays(), true);
        x.tamper(0, 1);
        CHECKS.due("extended to 0, then changed: replays", x.replays(), false);
    }

    // "REGISTERS 0 .. 5 hold longs."

    private static void registersHoldAnyLong() {
        for (long value : EDGE_LONGS) {
            for (int r = 0; r < 6; r++) {
                MeasuredStages x = new MeasuredStages();
                hold(x, r, value);
                for (int other = 0; other < 6; other++) {
                    CHECKS.due("register " + other + " when " + r + " holds " + value,
                        x.register(other), other == r ? value : 0);
                }
            }
        }
    }

    // "EXTENDING register r by v: the register becomes H(what it held, v)"

    private static void extendingTakesWhatTheRegisterHeld() {
        MeasuredStages x = new MeasuredStages();
        long held = 0;
        for (long v : EDGE_LONGS) {
            x.extend(5, v);
            held = Checks.h(held, v);
            CHECKS.due("extended by " + v, x.register(5), held);
        }
    }

    // "and the EVENT (r, v) is put at the end of the LOG"

    private static void eventsArePutAtTheEnd() {
        MeasuredStages x = new MeasuredStages();
        for (int k = 0; k < 32; k++) {
            x.extend(5 - k % 6, Long.MIN_VALUE + k);
            CHECKS.due("event " + k + ": count", x.events(), k + 1);
        }
        for (int k = 0; k < 32; k++) {
            CHECKS.due("event " + k + ": register", x.eventRegister(k), 5 - k % 6);
            CHECKS.due("event " + k + ": value", x.eventValue(k), Long.MIN_VALUE + k);
        }
    }

    // "the log has at most 32 events."

    private static void theLogHas32Events() {
        MeasuredStages x = new MeasuredStages();
        for (int k = 0; k < 32; k++) {
            x.extend(1, k);
        }
        long held = x.register(1);
        CHECKS.throwsDue("event 33", STATE, () -> x.extend(1, 32));
        CHECKS.due("event 33: events", x.events(), 32);
        CHECKS.due("event 33: register", x.register(1), held);
        CHECKS.throwsDue("event 33: the other register", STATE, () -> x.extend(2, 32));
        CHECKS.due("event 33: the other register", x.register(2), 0);
    }

    // "IMAGES 0 .. 7 are longs" and "The DIGEST of an image c is H(5, c)."

    private static void imagesAreAnyLong() {
        for (long code : EDGE_LONGS) {
            MeasuredStages x = new MeasuredStages();
            for (int n = 0; n < 8; n++) {
                x.image(n, code);
                boot(x, n);
                CHECKS.due("digest of image " + n + " = " + code, x.eventValue(0), Checks.digest(code));
            }
        }
    }

    // "DIGIT i of an image (i from 0) is image >>> 4 i & 15 for i below 16, and 0 beyond."

    private static void digit15IsRead() {
        MeasuredStages x = new MeasuredStages();
        for (int i = 2; i < 16; i++) {
            int[] digits = new int[16];
            digits[0] = 7;
            digits[1] = i - 2;
            digits[i] = 15;
            x.image(0, Checks.code(digits));
            stops("digit " + i + " is 15", x, 0, UNKNOWN);
            CHECKS.due("digit " + i + " is 15: steps", x.steps(), 1);
        }
    }

    private static void digitsBeyond15Are0() {
        MeasuredStages x = new MeasuredStages();
        for (int over = 0; over < 16; over++) {
            x.image(0, Checks.code(7, 12, 9, 9, 9, 9, 9, 9, 9, 9, 9, 9, 9, 9, 7, over));
            CHECKS.due("digit " + (16 + over) + " is the end", boot(x, 0), 0);
            CHECKS.due("digit " + (16 + over) + " is the end: steps", x.steps(), 3);
        }
        for (int over = 0; over < 16; over++) {
            x.image(0, Checks.code(7, over, 5, 5, 5, 5, 5, 5, 5, 5, 5, 5, 5, 5, 5, 5));
            CHECKS.due("the digits behind " + over + " end", boot(x, 0), 0);
            CHECKS.due("the digits behind " + over + " end: steps", x.steps(), 2 + (15 - over) / 2);
        }
    }

    private static void operandsBeyondDigit15Are0() {
        CHECKS.due("1 at digit 15: launched", codeAtDigit15(1).eventValue(1), Checks.digest(0));
        CHECKS.due("2 at digit 15: register", codeAtDigit15(2).eventRegister(1), 0);
        CHECKS.due("2 at digit 15: value", codeAtDigit15(2).eventValue(1), 0);
        CHECKS.due("3 at digit 15: steps", codeAtDigit15(3).steps(), 3);
        CHECKS.due("4 at digit 15: acc", codeAtDigit15(4).acc(), 17);
        CHECKS.due("5 at digit 15: acc", codeAtDigit15(5).acc(), Checks.h(0, 0));
        CHECKS.due("6 at digit 15: register", codeAtDigit15(6).eventRegister(1), 0);
        CHECKS.due("7 at digit 15: steps", codeAtDigit15(7).steps(), 3);
        onlyRegisters("8 at digit 15", codeAtDigit15(8), 1, 1);
        MeasuredStages x = new MeasuredStages();
        x.image(0, Checks.code(7, 12, 9, 9, 9, 9, 9, 9, 9, 9, 9, 9, 9, 9, 2, 3));
        CHECKS.due("2 at digit 14", boot(x, 0), 0);
        CHECKS.due("2 at digit 14: register", x.eventRegister(1), 3);
        CHECKS.due("2 at digit 14: value", x.eventValue(1), 0);
    }

    /** Boots an image that does this code last; were digits 16 and 17 read as 0 and 1 again, x were 7 and y 13. */
    private static MeasuredStages codeAtDigit15(int code) {
        MeasuredStages x = new MeasuredStages();
        x.image(1, Checks.code(7, 13, 9, 9, 9, 9, 9, 9, 9, 9, 9, 9, 9, 9, 9, code));
        x.approve(0);
        x.seal(32, 17);
        CHECKS.due("code " + code + " at digit 15", boot(x, 1), 0);
        return x;
    }

    // "For each image there may be an APPROVED digest."

    private static void aDigestOf0IsNoApproval() {
        for (int n = 0; n <= 7; n++) {
            MeasuredStages x = new MeasuredStages();
            int first = (n + 1) % 8;
            x.image(n, Checks.valueFor(5, 0));
            x.image(first, Checks.code(3, n));
            stops("image " + n + " of digest 0 that none approved", x, first, REFUSED);
        }
    }

    private static void anApprovedDigestMayBe0() {
        MeasuredStages x = new MeasuredStages();
        x.image(1, Checks.valueFor(5, 0));
        x.approve(1);
        x.image(0, Checks.code(3, 1));
        CHECKS.due("an approved digest of 0", boot(x, 0), 0);
        x.image(1, 0);
        stops("another image than that of digest 0", x, 0, REFUSED);
    }

    // "BLOBS 0 .. 7 are each free or have a MASK (1 .. 63), a POLICY and a secret (a long)."

    private static void blobsAreEightWithAnySecret() {
        for (long secret : EDGE_LONGS) {
            MeasuredStages x = new MeasuredStages();
            for (int k = 0; k < 8; k++) {
                CHECKS.due("blob " + k, x.seal(63 - k, secret ^ k), k);
            }
            for (int k = 0; k < 8; k++) {
                CHECKS.due("blob " + k + " of " + secret, x.unseal(k), secret ^ k);
            }
            CHECKS.throwsDue("blob 8", STATE, () -> x.seal(1, secret));
        }
    }

    // "The POLICY of a mask is what p comes to: first p = H(9, mask); then for r = 0 .. 5, if bit r of
    // the mask (mask >> r & 1) is 1, p becomes H(p, register r)."

    private static void everyMaskHasItsRegisters() {
        for (int mask = 1; mask <= 63; mask++) {
            MeasuredStages x = new MeasuredStages();
            x.boot(0);
            x.seal(mask, 4);
            onlyRegisters("mask " + mask, x, 0, mask);
        }
    }

    private static void theMaskItselfIsInThePolicy() {
        MeasuredStages x = new MeasuredStages();
        for (int r = 0; r < 6; r++) {
            hold(x, r, 40 + r);
        }
        for (int mask = 1; mask <= 63; mask++) {
            long policy = Checks.h(9, mask);
            for (int r = 0; r < 6; r++) {
                policy = (mask >> r & 1) == 1 ? Checks.h(policy, 40 + r) : policy;
            }
            CHECKS.due("policy of " + mask, x.quote(0, 0, mask), Checks.h(Checks.h(0, 0), policy));
        }
    }

    private static void aPolicyMayBe0() {
        MeasuredStages x = new MeasuredStages();
        hold(x, 0, Checks.valueFor(Checks.h(9, 1), 0));
        CHECKS.due("policy of 0: quote", x.quote(2, 3, 1), Checks.h(Checks.h(2, 3), 0));
        CHECKS.due("policy of 0: seal", x.seal(1, 8), 0);
        CHECKS.due("policy of 0: the next seal", x.seal(1, 9), 1);
        CHECKS.due("policy of 0: unseal", x.unseal(0), 8);
        x.extend(0, 1);
        CHECKS.throwsDue("policy of 0: closed", STATE, () -> x.unseal(0));
    }

    // "SEALING a secret to a mask: the least free blob gets the mask, the mask's policy as the
    // registers are, and the secret."

    private static void sealingTakesTheLeastFree() {
        for (int free = 0; free < 256; free++) {
            MeasuredStages x = new MeasuredStages();
            for (int k = 0; k < 8; k++) {
                x.seal(1, k);
            }
            for (int k = 0; k < 8; k++) {
                if ((free >> k & 1) == 1) {
                    x.discard(k);
                }
            }
            x.extend(2, 1);
            for (int k = 0; k < 8; k++) {
                if ((free >> k & 1) == 1) {
                    CHECKS.due("least free of " + free, x.seal(4, 20 + k), k);
                }
            }
            CHECKS.throwsDue("none free of " + free, STATE, () -> x.seal(4, 1));
            x.extend(0, 1);
            for (int k = 0; k < 8; k++) {
                sealedAnew("blob " + k + " of " + free, x, k, (free >> k & 1) == 1);
            }
        }
    }

    private static void sealedAnew(String what, MeasuredStages x, int k, boolean anew) {
        if (anew) {
            CHECKS.due(what, x.unseal(k), 20 + k);
        } else {
            CHECKS.throwsDue(what, STATE, () -> x.unseal(k));
        }
    }

    // "A blob is OPEN when the policy of its mask, as the registers are now, is the one that it has."

    private static void openWhenHeldAgain() {
        MeasuredStages x = new MeasuredStages();
        x.seal(63, 1);
        hold(x, 4, 5);
        CHECKS.throwsDue("closed by another register", STATE, () -> x.unseal(0));
        x.extend(4, Checks.valueFor(5, 0));
        CHECKS.due("open when held again without a boot", x.unseal(0), 1);
        x.tamper(0, 1);
        CHECKS.due("open whatever the log says", x.unseal(0), 1);
        x.boot(0);
        CHECKS.throwsDue("closed by a boot", STATE, () -> x.unseal(0));
        x.seal(63, 2);
        x.boot(0);
        CHECKS.due("open when the same was booted", x.unseal(1), 2);
        x.image(0, Checks.code(0, 1));
        x.boot(0);
        CHECKS.throwsDue("closed when another was booted", STATE, () -> x.unseal(1));
    }

    // "A call that throws changes nothing, but for boot as said there." (CallsEdgesTest has every call.)

    private static void aThrowChangesNothing() {
        Twins.changesNothing(CHECKS, "a refused image", Twins::withRoom, ARGUMENT, x -> x.image(8, 1));
        Twins.changesNothing(CHECKS, "a refused extend", Twins::full, STATE, x -> x.extend(0, 1));
    }

    // "Where a call may throw two things, the one that its comment names first is thrown."

    private static void theFirstNamedIsThrown() {
        for (int r : new int[] {-1, 6, Integer.MIN_VALUE, Integer.MAX_VALUE}) {
            Twins.changesNothing(CHECKS, "extend(" + r + ") with a full log", Twins::full, INDEX, x -> x.extend(r, 1));
        }
        for (int mask : new int[] {0, 64, -1, Integer.MIN_VALUE, Integer.MAX_VALUE}) {
            Twins.changesNothing(CHECKS, "seal(" + mask + ") with no free blob",
                Twins::full, ARGUMENT, x -> x.seal(mask, 1));
        }
        MeasuredStages x = new MeasuredStages();
        x.seal(1, 1);
        x.extend(0, 1);
        x.discard(0);
        CHECKS.throwsDue("unseal of a free one that would not be open", NONE, () -> x.unseal(0));
    }
}
