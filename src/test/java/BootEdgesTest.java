/**
 * The boundary cases that "Terms" names from "LAUNCHING" on: codes, steps and faults, in the document's
 * order: above each test stands the sentence that it is for.
 */
public final class BootEdgesTest extends MachineChecks {
    public static void main(String[] args) {
        launchingMeasuresIntoTheDepth();
        launchingMeasuresBeforeItRuns();
        goingOnBehindTheLaunch();
        operandsAreTaken();
        endOfTheFirstImage();
        launchTakesThreeBits();
        deepOnlyAtDepth5();
        deepBeforeTheLog();
        registersByRemainder();
        refusedUnlessApproved();
        missingOrSealed();
        hashOfAcc();
        passingOverOnlyWhenAccIs0();
        passingOverNoneToFifteen();
        sealingInABoot();
        crowded();
        unknownFrom9To15();
        aLaunchCountsBeforeItsImage();
        aFaultIsNoStep();
        step100IsDone();
        step101IsTired();
        tiredAtAnEndAmongTheDigits();
        tiredBeforeAnythingElse();
        fullAtEvent33();
        aFaultDoesNothing();
        faultsHaveTheirNumbers();
        CHECKS.finish("BootEdgesTest");
    }

    // "LAUNCHING image n at depth d: register d is extended by the image's digest"

    private static void launchingMeasuresIntoTheDepth() {
        MeasuredStages x = new MeasuredStages();
        chainTo(x, 5, Checks.code(5, 9));
        CHECKS.due("a chain of six", boot(x, 0), 0);
        for (int d = 0; d < 6; d++) {
            long digest = Checks.digest(d < 5 ? Checks.code(1, d + 1) : Checks.code(5, 9));
            CHECKS.due("depth " + d + ": register", x.register(d), Checks.h(0, digest));
            CHECKS.due("depth " + d + ": event", x.eventRegister(d), d);
            CHECKS.due("depth " + d + ": value", x.eventValue(d), digest);
        }
        CHECKS.due("a chain of six: events", x.events(), 6);
    }

    // "then the number of images LAUNCHED grows by 1, and the image runs at depth d"

    private static void launchingMeasuresBeforeItRuns() {
        MeasuredStages x = new MeasuredStages();
        x.image(0, Checks.code(9));
        stops("an image that faults at once", x, 0, UNKNOWN);
        CHECKS.due("an image that faults at once: launched", x.launched(), 1);
        CHECKS.due("an image that faults at once: events", x.events(), 1);
        x.image(1, Checks.code(1, 0, 2, 2, 3));
        stops("a second one that faults at once", x, 1, UNKNOWN);
        CHECKS.due("a second one: launched", x.launched(), 2);
        CHECKS.due("a second one: events", x.events(), 2);
        CHECKS.due("a second one: steps", x.steps(), 1);
    }

    // "0 the image ends: one goes on behind the instruction that launched it"

    private static void goingOnBehindTheLaunch() {
        MeasuredStages x = new MeasuredStages();
        x.image(0, Checks.code(1, 1, 1, 1, 5, 4, 0, 9));
        x.image(1, Checks.code(1, 2, 5, 3, 1, 2));
        x.image(2, Checks.code(5, 2, 0, 15));
        CHECKS.due("back to the launcher", boot(x, 0), 0);
        long acc = 0;
        for (int digit : new int[] {2, 3, 2, 2, 3, 2, 4}) {
            acc = Checks.h(acc, digit);
        }
        CHECKS.due("back to the launcher: acc", x.acc(), acc);
        CHECKS.due("back to the launcher: launched", x.launched(), 7);
        CHECKS.due("back to the launcher: steps", x.steps(), 20);
        int[] depths = {0, 1, 2, 2, 1, 2, 2};
        for (int k = 0; k < depths.length; k++) {
            CHECKS.due("back to the launcher: depth of launch " + k, x.eventRegister(k), depths[k]);
        }
    }

    // "the one or two digits behind it that its code takes (x, y); the next one begins behind these."

    private static void operandsAreTaken() {
        for (int code = 1; code <= 8; code++) {
            MeasuredStages x = new MeasuredStages();
            x.approve(2);
            for (int k = 0; k < 3; k++) {
                x.seal(32, 1);
            }
            int[] digits = code == 2 ? new int[] {2, 9, 9, 5, 6} : new int[] {code, code == 7 ? 0 : 2, 5, 6};
            x.image(0, Checks.code(digits));
            CHECKS.due("behind code " + code, boot(x, 0), 0);
            long before = code == 4 ? 1 : code == 5 ? Checks.h(0, 2) : 0;
            CHECKS.due("behind code " + code + ": acc", x.acc(), Checks.h(before, 6));
        }
    }

    // "or, if it was the first, the machine has started"

    private static void endOfTheFirstImage() {
        MeasuredStages x = new MeasuredStages();
        CHECKS.due("an image of nothing but its end", x.boot(7), 1);
        CHECKS.due("an image of nothing but its end: steps", x.steps(), 1);
        x.image(7, Checks.code(0, 9, 9, 9, 9, 9, 9, 9, 9, 9, 9, 9, 9, 9, 9, 9));
        CHECKS.due("nothing behind the end is done", x.boot(7), 1);
        CHECKS.due("nothing behind the end is done: steps", x.steps(), 1);
    }

    // "1 x: LAUNCH image x & 7 at depth d + 1"

    private static void launchTakesThreeBits() {
        for (int digit = 0; digit < 16; digit++) {
            MeasuredStages x = new MeasuredStages();
            for (int n = 0; n < 8; n++) {
                x.image(n, Checks.code(0, n + 1));
            }
            int first = (digit + 1) % 8;
            x.image(first, Checks.code(1, digit));
            CHECKS.due("1 " + digit, x.boot(first), 2);
            CHECKS.due("1 " + digit + ": digest", x.eventValue(1), Checks.digest(Checks.code(0, digit % 8 + 1)));
        }
    }

    // "fault DEEP if d is 5"

    private static void deepOnlyAtDepth5() {
        for (int d = 0; d <= 5; d++) {
            MeasuredStages x = new MeasuredStages();
            chainTo(x, d, Checks.code(1, 6));
            CHECKS.due("a launch at depth " + d, boot(x, 0), d == 5 ? DEEP : 0);
            CHECKS.due("a launch at depth " + d + ": launched", x.launched(), d == 5 ? 6 : d + 2);
            CHECKS.due("a launch at depth " + d + ": events", x.events(), d == 5 ? 6 : d + 2);
        }
        MeasuredStages x = new MeasuredStages();
        x.image(3, Checks.code(1, 3));
        stops("an image that launches itself", x, 3, DEEP);
        CHECKS.due("an image that launches itself: launched", x.launched(), 6);
        CHECKS.due("an image that launches itself: steps", x.steps(), 5);
        x.image(3, Checks.code(1, 11, 15));
        stops("one that launches itself by another digit", x, 3, DEEP);
    }

    // "(looked at before the log)"

    private static void deepBeforeTheLog() {
        MeasuredStages x = new MeasuredStages();
        fullAtDepth5(x, Checks.code(5, 1, 5, 1, 5, 1, 1, 6));
        stops("a launch at depth 5 with a full log", x, 0, DEEP);
        CHECKS.due("a launch at depth 5 with a full log: events", x.events(), 32);
        CHECKS.due("a launch at depth 5 with a full log: steps", x.steps(), 99);
    }

    // "2 x y: register x % 6 is extended by y" and "6 x: register x % 6 is extended by ACC"

    private static void registersByRemainder() {
        for (int digit = 0; digit < 16; digit++) {
            MeasuredStages x = new MeasuredStages();
            x.image(0, Checks.code(5, 8, 2, digit, 15 - digit, 6, digit));
            CHECKS.due("2 and 6 of " + digit, boot(x, 0), 0);
            CHECKS.due("2 " + digit + ": register", x.eventRegister(1), digit % 6);
            CHECKS.due("2 " + digit + ": value", x.eventValue(1), 15 - digit);
            CHECKS.due("6 " + digit + ": register", x.eventRegister(2), digit % 6);
            CHECKS.due("6 " + digit + ": value", x.eventValue(2), Checks.h(0, 8));
            long before = digit % 6 == 0 ? x.eventValue(0) : 0;
            long held = digit % 6 == 0 ? Checks.h(0, before) : 0;
            CHECKS.due("2 and 6 of " + digit + ": held", x.register(digit % 6),
                Checks.h(Checks.h(held, 15 - digit), Checks.h(0, 8)));
        }
    }

    // "3 x: fault REFUSED unless image x & 7 has an approved digest and its digest is that"

    private static void refusedUnlessApproved() {
        for (int digit = 0; digit < 16; digit++) {
            MeasuredStages x = new MeasuredStages();
            int first = (digit + 3) % 8;
            x.image(first, Checks.code(3, digit, 5, 1));
            stops("3 " + digit + " without approval", x, first, REFUSED);
            CHECKS.due("3 " + digit + " without approval: acc", x.acc(), 0);
            x.approve((digit + 1) % 8);
            stops("3 " + digit + " with another's approval", x, first, REFUSED);
            x.approve(digit % 8);
            CHECKS.due("3 " + digit + " with approval", boot(x, first), 0);
            x.image(digit % 8, 1L << 63);
            stops("3 " + digit + " changed in its top bit", x, first, REFUSED);
            x.image(digit % 8, 0);
            CHECKS.due("3 " + digit + " changed back", boot(x, first), 0);
        }
        MeasuredStages x = new MeasuredStages();
        x.image(6, Checks.code(3, 6));
        stops("an image that demands its own approval", x, 6, REFUSED);
        x.approve(6);
        CHECKS.due("an image that has its own approval", boot(x, 6), 0);
    }

    // "4 x: ACC becomes the secret of blob x & 7; fault MISSING if it is free, SEALED if it is not open"

    private static void missingOrSealed() {
        for (int digit = 0; digit < 16; digit++) {
            MeasuredStages x = new MeasuredStages();
            x.image(0, Checks.code(5, 1, 4, digit));
            for (int k = 0; k < 8; k++) {
                x.seal(32, Long.MIN_VALUE + k);
            }
            CHECKS.due("4 " + digit, boot(x, 0), 0);
            CHECKS.due("4 " + digit + ": acc", x.acc(), Long.MIN_VALUE + digit % 8);
            x.discard(digit % 8);
            stops("4 " + digit + " of a free one", x, 0, MISSING);
            CHECKS.due("4 " + digit + " of a free one: acc", x.acc(), Checks.h(0, 1));
            x.extend(5, 3);
            x.seal(32, 9);
            stops("4 " + digit + " of one that is not open", x, 0, SEALED);
            CHECKS.due("4 " + digit + " of one that is not open: acc", x.acc(), Checks.h(0, 1));
            x.discard(digit % 8);
            stops("4 " + digit + " of a free one that was not open", x, 0, MISSING);
        }
    }

    // "5 x: ACC becomes H(ACC, x)"

    private static void hashOfAcc() {
        for (long secret : EDGE_LONGS) {
            for (int digit = 0; digit < 16; digit += 15) {
                MeasuredStages x = new MeasuredStages();
                x.seal(32, secret);
                x.image(0, Checks.code(4, 0, 5, digit));
                CHECKS.due("5 " + digit + " of " + secret, boot(x, 0), 0);
                CHECKS.due("5 " + digit + " of " + secret + ": acc", x.acc(), Checks.h(secret, digit));
            }
        }
    }

    // "7 x: if ACC is 0, the next x digits are passed over"

    private static void passingOverOnlyWhenAccIs0() {
        for (long secret : EDGE_LONGS) {
            MeasuredStages x = new MeasuredStages();
            x.seal(32, secret);
            x.image(0, Checks.code(5, 1, 4, 0, 7, 2, 5, 6));
            CHECKS.due("7 when acc is " + secret, boot(x, 0), 0);
            CHECKS.due("7 when acc is " + secret + ": acc", x.acc(), secret == 0 ? 0 : Checks.h(secret, 6));
            CHECKS.due("7 when acc is " + secret + ": steps", x.steps(), secret == 0 ? 4 : 5);
        }
    }

    private static void passingOverNoneToFifteen() {
        MeasuredStages x = new MeasuredStages();
        for (int over = 0; over < 14; over++) {
            int[] digits = {7, over, 9, 9, 9, 9, 9, 9, 9, 9, 9, 9, 9, 9, 9, 9};
            digits[2 + over] = 0;
            x.image(0, Checks.code(digits));
            CHECKS.due("7 " + over + " comes to the end", boot(x, 0), 0);
            CHECKS.due("7 " + over + " comes to the end: steps", x.steps(), 2);
            int[] ends = {7, over, 0, 0, 0, 0, 0, 0, 0, 0, 0, 0, 0, 0, 0, 0};
            ends[2 + over] = 9;
            x.image(0, Checks.code(ends));
            stops("7 " + over + " passes over ends", x, 0, UNKNOWN);
        }
        for (int over = 14; over < 16; over++) {
            x.image(0, Checks.code(7, over, 9, 9, 9, 9, 9, 9, 9, 9, 9, 9, 9, 9, 9, 9));
            CHECKS.due("7 " + over + " passes over all digits", boot(x, 0), 0);
            CHECKS.due("7 " + over + " passes over all digits: steps", x.steps(), 2);
        }
    }

    // "8 x: ACC is sealed to the mask x + 1"

    private static void sealingInABoot() {
        for (int digit = 0; digit < 16; digit++) {
            MeasuredStages x = new MeasuredStages();
            x.image(0, Checks.code(5, 2, 8, digit));
            CHECKS.due("8 " + digit, boot(x, 0), 0);
            CHECKS.due("8 " + digit + ": secret", x.unseal(0), Checks.h(0, 2));
            CHECKS.due("8 " + digit + ": acc", x.acc(), Checks.h(0, 2));
            CHECKS.throwsDue("8 " + digit + ": blob 1", NONE, () -> x.unseal(1));
            onlyRegisters("8 " + digit, x, 0, digit + 1);
        }
        MeasuredStages x = new MeasuredStages();
        x.image(0, Checks.code(8, 0));
        CHECKS.due("8 of an acc of 0", boot(x, 0), 0);
        CHECKS.due("8 of an acc of 0: secret", x.unseal(0), 0);
    }

    // "fault CROWDED if no blob is free"

    private static void crowded() {
        MeasuredStages x = new MeasuredStages();
        x.image(0, Checks.code(5, 1, 8, 0, 8, 15, 8, 1, 8, 2, 8, 3, 8, 4, 8, 5));
        CHECKS.due("seven blobs in one boot", boot(x, 0), 0);
        x.image(1, Checks.code(5, 2, 8, 0, 8, 0, 5, 3));
        stops("the ninth blob", x, 1, CROWDED);
        CHECKS.due("the ninth blob: steps", x.steps(), 2);
        CHECKS.due("the ninth blob: acc", x.acc(), Checks.h(0, 2));
        CHECKS.due("the eighth blob", x.unseal(7), Checks.h(0, 2));
        x.discard(4);
        stops("the ninth blob again", x, 1, CROWDED);
        CHECKS.due("the eighth blob again", x.unseal(4), Checks.h(0, 2));
    }

    // "9 .. 15: fault UNKNOWN"

    private static void unknownFrom9To15() {
        MeasuredStages x = new MeasuredStages();
        for (int code = 9; code < 16; code++) {
            x.image(0, Checks.code(code));
            stops("code " + code, x, 0, UNKNOWN);
            CHECKS.due("code " + code + ": steps", x.steps(), 0);
            x.image(0, Checks.code(5, code, 2, code, code, 6, code, 8, code, 7, 0));
            CHECKS.due("code " + code + " as a digit of others", boot(x, 0), 0);
            x.discard(0);
        }
        x.image(0, Checks.code(8, 0));
        CHECKS.due("code 8 is known", boot(x, 0), 0);
    }

    // "Each instruction that has no fault is a STEP (a LAUNCH counts before those of the image that it
    // launches)"

    private static void aLaunchCountsBeforeItsImage() {
        MeasuredStages x = new MeasuredStages();
        x.image(0, Checks.code(5, 1, 1, 1));
        x.image(1, Checks.code(9));
        stops("a fault in what was launched", x, 0, UNKNOWN);
        CHECKS.due("a fault in what was launched: steps", x.steps(), 2);
        beforeStep101(x, Checks.code(5, 1, 5, 1, 5, 1, 1, 3));
        stops("launched by step 100", x, 0, TIRED);
        CHECKS.due("launched by step 100: steps", x.steps(), 100);
        CHECKS.due("launched by step 100: launched", x.launched(), 13);
        CHECKS.due("launched by step 100: its event", x.eventRegister(x.events() - 1), 2);
    }

    private static void aFaultIsNoStep() {
        int[][] faulty = {{9, UNKNOWN}, {3, REFUSED}, {4, MISSING}};
        for (int[] row : faulty) {
            MeasuredStages x = new MeasuredStages();
            x.image(0, Checks.code(row[0], 5));
            stops("a fault at once, code " + row[0], x, 0, row[1]);
            CHECKS.due("a fault at once, code " + row[0] + ": steps", x.steps(), 0);
        }
    }

    // "when 100 steps were done since the start, the next instruction has the fault TIRED"

    private static void step100IsDone() {
        MeasuredStages x = new MeasuredStages();
        beforeStep101(x, Checks.code(5, 1, 5, 1));
        CHECKS.due("step 100 is the first image's end", x.boot(0), 12);
        CHECKS.due("step 100 is the first image's end: steps", x.steps(), 100);
        CHECKS.due("step 100 is the first image's end: fault", x.fault(), 0);
        beforeStep101(x, Checks.code(5, 1));
        CHECKS.due("99 steps", x.boot(0), 12);
        CHECKS.due("99 steps: steps", x.steps(), 99);
        for (int code = 0; code <= 8; code++) {
            everyCodeMayBeStep100(code);
        }
    }

    private static void everyCodeMayBeStep100(int code) {
        MeasuredStages x = new MeasuredStages();
        beforeStep101(x, Checks.code(5, 1, 5, 1, 5, 1, code, 0));
        x.approve(0);
        x.seal(32, 6);
        String what = "step 100 is code " + code;
        stops(what, x, 0, TIRED);
        CHECKS.due(what + ": steps", x.steps(), 100);
        CHECKS.due(what + ": events", x.events(), code == 1 || code == 2 || code == 6 ? 13 : 12);
        long acc = hashed(78);
        CHECKS.due(what + ": acc", x.acc(), code == 4 ? 6 : code == 5 ? Checks.h(acc, 0) : acc);
        if (code == 8) {
            CHECKS.due(what + ": blob 1", x.unseal(1), acc);
        } else {
            CHECKS.throwsDue(what + ": blob 1", NONE, () -> x.unseal(1));
        }
    }

    private static void step101IsTired() {
        MeasuredStages x = new MeasuredStages();
        beforeStep101(x, Checks.code(5, 1, 5, 1, 5, 1));
        stops("step 101 is the first image's end", x, 0, TIRED);
        CHECKS.due("step 101 is the first image's end: steps", x.steps(), 100);
        beforeStep101(x, Checks.code(5, 1, 5, 1, 5, 1, 5, 1));
        stops("step 101 is a later image's end", x, 0, TIRED);
        CHECKS.due("step 101 is a later image's end: steps", x.steps(), 100);
        CHECKS.due("a boot after it counts anew", x.boot(5), 1);
        CHECKS.due("a boot after it counts anew: steps", x.steps(), 1);
    }

    private static void tiredAtAnEndAmongTheDigits() {
        MeasuredStages x = new MeasuredStages();
        x.image(0, Checks.code(1, 1, 1, 4, 1, 5));
        x.image(1, Checks.code(1, 4, 1, 4, 1, 4, 1, 4, 1, 4, 1, 4, 1, 4, 1, 4));
        x.image(4, Checks.code(5, 1, 5, 1, 5, 1, 5, 1, 5, 1, 5, 1, 5, 1, 5, 1));
        x.image(5, Checks.code(5, 1, 5, 1, 5, 1, 5, 1, 5, 1));
        CHECKS.due("step 100 is the end at digit 6", boot(x, 0), 0);
        CHECKS.due("step 100 is the end at digit 6: steps", x.steps(), 100);
        x.image(5, Checks.code(5, 1, 5, 1, 5, 1, 5, 1, 5, 1, 5, 1));
        stops("step 101 is the end at digit 6", x, 0, TIRED);
        CHECKS.due("step 101 is the end at digit 6: steps", x.steps(), 100);
    }

    // "before anything else of it"

    private static void tiredBeforeAnythingElse() {
        for (int code = 0; code < 16; code++) {
            MeasuredStages x = new MeasuredStages();
            fullAtDepth5(x, Checks.code(5, 1, 5, 1, 5, 1, 5, 1, code, 0));
            for (int k = 0; k < 8; k++) {
                x.seal(63, 1);
            }
            stops("step 101 of code " + code, x, 0, TIRED);
            CHECKS.due("step 101 of code " + code + ": steps", x.steps(), 100);
            CHECKS.due("step 101 of code " + code + ": events", x.events(), 32);
            CHECKS.due("step 101 of code " + code + ": acc", x.acc(), hashed(60));
            fullAtDepth5(x, Checks.code(5, 1, 5, 1, 5, 1, code, 0));
            int[] at99 = {TIRED, DEEP, FULL, REFUSED, SEALED, TIRED, FULL, TIRED, CROWDED};
            stops("step 100 of code " + code, x, 0, code < 9 ? at99[code] : UNKNOWN);
        }
    }

    // "Extending when the log is full has the fault FULL."

    private static void fullAtEvent33() {
        long[] thirtyThird = {Checks.code(2, 3, 1), Checks.code(6, 3), Checks.code(1, 3)};
        for (long last : thirtyThird) {
            MeasuredStages x = new MeasuredStages();
            // 26 events are noted when image 2 begins: 1 + 3 * 8 + 1.
            x.image(0, Checks.code(1, 1, 1, 1, 1, 1, 1, 2));
            x.image(1, Checks.code(6, 0, 6, 1, 6, 2, 6, 3, 6, 4, 6, 5, 6, 0));
            x.image(2, Checks.code(6, 0, 6, 0, 6, 0, 6, 0) | last << 32);
            CHECKS.due("event 31", boot(x, 0), 0);
            CHECKS.due("event 31: events", x.events(), 31);
            x.image(2, Checks.code(6, 0, 6, 0, 6, 0, 6, 0, 6, 0) | last << 40);
            CHECKS.due("event 32 is taken", boot(x, 0), 0);
            CHECKS.due("event 32 is taken: events", x.events(), 32);
            long launched = x.launched();
            x.image(2, Checks.code(6, 0, 6, 0, 6, 0, 6, 0, 6, 0, 6, 0) | last << 48);
            stops("event 33", x, 0, FULL);
            CHECKS.due("event 33: events", x.events(), 32);
            CHECKS.due("event 33: launched", x.launched(), last == Checks.code(1, 3) ? launched - 1 : launched);
            CHECKS.due("event 33: register 3", x.register(3), Checks.h(Checks.h(Checks.h(0, 0), 0), 0));
            CHECKS.due("event 33: replays", x.replays(), true);
        }
    }

    // "An instruction or launch that has a fault does nothing (but what was done before it stays), and
    // the machine STOPS."

    private static void aFaultDoesNothing() {
        int[][] faulty = {{9, UNKNOWN}, {3, REFUSED}, {4, MISSING}, {4, SEALED}, {8, CROWDED}};
        for (int[] row : faulty) {
            MeasuredStages x = new MeasuredStages();
            long image = Checks.code(5, 3, 2, 4, 9, 1, 1, 2, 4, 1);
            long inner = Checks.code(6, 2, row[0], 7, 5, 5);
            x.image(0, image);
            x.image(1, inner);
            takeBlobs(x, row[1]);
            String what = "fault " + row[1];
            stops(what, x, 0, row[1]);
            CHECKS.due(what + ": acc", x.acc(), Checks.h(0, 3));
            CHECKS.due(what + ": launched", x.launched(), 2);
            CHECKS.due(what + ": steps", x.steps(), 4);
            CHECKS.due(what + ": events", x.events(), 4);
            long[] held = {Checks.h(0, Checks.digest(image)), Checks.h(0, Checks.digest(inner)),
                Checks.h(0, Checks.h(0, 3)), 0, Checks.h(0, 9), 0};
            for (int r = 0; r < 6; r++) {
                CHECKS.due(what + ": register " + r, x.register(r), held[r]);
            }
            CHECKS.due(what + ": replays", x.replays(), true);
        }
    }

    private static void takeBlobs(MeasuredStages x, int fault) {
        int blobs = fault == SEALED || fault == CROWDED ? 8 : 7;
        for (int k = 0; k < blobs; k++) {
            x.seal(2, k);
        }
    }

    // "FAULTS: 0 none, 1 UNKNOWN, 2 DEEP, 3 TIRED, 4 FULL, 5 REFUSED, 6 MISSING, 7 SEALED, 8 CROWDED."

    private static void faultsHaveTheirNumbers() {
        MeasuredStages x = new MeasuredStages();
        CHECKS.due("none", boot(x, 0), 0);
        x.image(0, Checks.code(9));
        CHECKS.due("UNKNOWN", boot(x, 0), 1);
        x.image(0, Checks.code(1, 0));
        CHECKS.due("DEEP", boot(x, 0), 2);
        beforeStep101(x, Checks.code(5, 1, 5, 1, 5, 1, 5, 1, 5, 1));
        CHECKS.due("TIRED", boot(x, 0), 3);
        fullAtDepth5(x, Checks.code(6, 1));
        CHECKS.due("FULL", boot(x, 0), 4);
        x.image(0, Checks.code(3, 2));
        CHECKS.due("REFUSED", boot(x, 0), 5);
        x.image(0, Checks.code(4, 2));
        CHECKS.due("MISSING", boot(x, 0), 6);
        for (int k = 0; k < 8; k++) {
            x.seal(1, k);
        }
        x.image(0, Checks.code(4, 2, 5));
        CHECKS.due("SEALED", boot(x, 0), 7);
        x.image(0, Checks.code(8, 2));
        CHECKS.due("CROWDED", boot(x, 0), 8);
    }
}
