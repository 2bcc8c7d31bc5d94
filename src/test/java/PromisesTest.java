/** For each promise: ordinary inputs, the edges that the document names, and wrong inputs. */
public final class PromisesTest extends MachineChecks {
    public static void main(String[] args) {
        aNewObjectIsEmpty();
        objectsShareNothing();
        imageIsWhatRuns();
        imageOfWrongNumber();
        digitsOfAnImage();
        approveKeepsADigest();
        approveIsForOneImage();
        approveOfWrongNumber();
        bootBeginsAnew();
        bootKeepsImagesApprovalsAndBlobs();
        bootOfWrongNumber();
        bootThatFaults();
        codeEnd();
        codeLaunch();
        codeExtendByDigit();
        codeDemandApproval();
        codeLoad();
        codeHash();
        codeExtendByAcc();
        codePassOver();
        codeSeal();
        codesUnknown();
        deepIsLookedAtBeforeTheLog();
        fullStopsEveryExtending();
        tiredAfterAHundredSteps();
        tiredBeforeAnythingElse();
        eachFaultHasItsNumber();
        launchedAndSteps();
        accStays();
        registers();
        extendNotes();
        extendUntilFull();
        eventsAreNumbered();
        tamperChangesTheLogAlone();
        replaysTheLog();
        sealTakesTheLeastFree();
        sealRefuses();
        unsealOnlyWhenOpen();
        unsealOfWrongNumber();
        discardFrees();
        quoteHasEveryPart();
        CHECKS.finish("PromisesTest");
    }

    // Promise 1

    private static void aNewObjectIsEmpty() {
        MeasuredStages x = new MeasuredStages();
        CHECKS.due("new: fault", x.fault(), 0);
        CHECKS.due("new: launched", x.launched(), 0);
        CHECKS.due("new: steps", x.steps(), 0);
        CHECKS.due("new: acc", x.acc(), 0);
        CHECKS.due("new: events", x.events(), 0);
        CHECKS.due("new: replays", x.replays(), true);
        for (int r = 0; r < 6; r++) {
            CHECKS.due("new: register " + r, x.register(r), 0);
        }
        for (int k = 0; k < 8; k++) {
            int blob = k;
            CHECKS.throwsDue("new: unseal " + k, NONE, () -> x.unseal(blob));
            CHECKS.throwsDue("new: discard " + k, NONE, () -> x.discard(blob));
        }
        CHECKS.throwsDue("new: eventValue", NONE, () -> x.eventValue(0));
        for (int n = 0; n < 8; n++) {
            CHECKS.due("new: boot " + n, x.boot(n), 1);
            CHECKS.due("new: image " + n, x.eventValue(0), Checks.digest(0));
        }
        for (int n = 1; n < 8; n++) {
            x.image(0, Checks.code(3, n));
            stops("new: image " + n + " is not approved", x, 0, REFUSED);
        }
    }

    private static void objectsShareNothing() {
        MeasuredStages x = new MeasuredStages();
        MeasuredStages y = new MeasuredStages();
        x.image(0, Checks.code(5, 1));
        x.approve(1);
        x.extend(3, 4);
        x.seal(1, 2);
        x.boot(0);
        CHECKS.due("other object: events", y.events(), 0);
        CHECKS.due("other object: acc", y.acc(), 0);
        CHECKS.throwsDue("other object: unseal", NONE, () -> y.unseal(0));
        y.image(0, Checks.code(3, 1));
        stops("other object: approval", y, 0, REFUSED);
    }

    // Promise 2

    private static void imageIsWhatRuns() {
        MeasuredStages x = new MeasuredStages();
        for (int n = 0; n < 8; n++) {
            x.image(n, Checks.code(5, n + 1));
        }
        for (int n = 0; n < 8; n++) {
            CHECKS.due("image " + n + ": boot", x.boot(n), 1);
            CHECKS.due("image " + n + ": acc", x.acc(), Checks.h(0, n + 1));
            CHECKS.due("image " + n + ": digest", x.eventValue(0), Checks.digest(Checks.code(5, n + 1)));
        }
        x.image(3, -1);
        stops("image of all ones", x, 3, UNKNOWN);
        CHECKS.due("image of all ones: digest", x.eventValue(0), Checks.digest(-1));
    }

    private static void imageOfWrongNumber() {
        MeasuredStages x = new MeasuredStages();
        for (int n : NO_IMAGES) {
            CHECKS.throwsDue("image(" + n + ")", ARGUMENT, () -> x.image(n, 0x99));
        }
        for (int n = 0; n < 8; n++) {
            CHECKS.due("after wrong images: boot " + n, x.boot(n), 1);
        }
    }

    private static void digitsOfAnImage() {
        MeasuredStages x = new MeasuredStages();
        x.image(0, Checks.code(5, 1, 5, 2, 5, 3, 5, 4, 5, 5, 5, 6, 5, 7, 5, 15));
        x.boot(0);
        long want = 0;
        for (int digit : new int[] {1, 2, 3, 4, 5, 6, 7, 15}) {
            want = Checks.h(want, digit);
        }
        CHECKS.due("sixteen digits: acc", x.acc(), want);
        CHECKS.due("sixteen digits: steps, the end beyond them too", x.steps(), 9);

        x.image(1, Checks.code(7, 12, 0, 0, 0, 0, 0, 0, 0, 0, 0, 0, 0, 0, 7, 0));
        CHECKS.due("digit 14 is reached", x.boot(1), 1);
        CHECKS.due("digit 14 is reached: steps", x.steps(), 3);

        x.image(2, Checks.code(7, 13, 0, 0, 0, 0, 0, 0, 0, 0, 0, 0, 0, 0, 0, 5));
        x.boot(2);
        CHECKS.due("x beyond the digits is 0", x.acc(), Checks.h(0, 0));
        x.image(2, Checks.code(7, 13, 0, 0, 0, 0, 0, 0, 0, 0, 0, 0, 0, 0, 0, 2));
        x.boot(2);
        CHECKS.due("x and y beyond the digits: register", x.eventRegister(1), 0);
        CHECKS.due("x and y beyond the digits: value", x.eventValue(1), 0);
        x.image(2, Checks.code(7, 12, 0, 0, 0, 0, 0, 0, 0, 0, 0, 0, 0, 0, 2, 4));
        x.boot(2);
        CHECKS.due("y beyond the digits: register", x.eventRegister(1), 4);
        CHECKS.due("y beyond the digits: value", x.eventValue(1), 0);
        CHECKS.due("y beyond the digits: steps", x.steps(), 3);
    }

    // Promise 3

    private static void approveKeepsADigest() {
        MeasuredStages x = new MeasuredStages();
        x.image(0, Checks.code(3, 1));
        x.image(1, 77);
        stops("nothing approved", x, 0, REFUSED);
        x.approve(1);
        CHECKS.due("approved", x.boot(0), 1);
        x.image(1, 78);
        stops("the image changed", x, 0, REFUSED);
        x.image(1, 77);
        CHECKS.due("the image is the approved one again", x.boot(0), 1);
        x.image(1, 78);
        x.approve(1);
        CHECKS.due("approved anew", x.boot(0), 1);
        x.image(1, 77);
        stops("the former approval is gone", x, 0, REFUSED);
    }

    private static void approveIsForOneImage() {
        for (int n = 1; n < 8; n++) {
            MeasuredStages x = new MeasuredStages();
            x.approve(n);
            for (int m = 1; m < 8; m++) {
                x.image(0, Checks.code(3, m));
                if (m == n) {
                    CHECKS.due("approve " + n + " is for it", x.boot(0), 1);
                } else {
                    stops("approve " + n + " is not for " + m, x, 0, REFUSED);
                }
            }
        }
        MeasuredStages x = new MeasuredStages();
        x.image(1, Checks.code(3, 0));
        x.approve(0);
        CHECKS.due("image 0 may be approved", x.boot(1), 1);
    }

    private static void approveOfWrongNumber() {
        MeasuredStages x = new MeasuredStages();
        for (int n : NO_IMAGES) {
            CHECKS.throwsDue("approve(" + n + ")", ARGUMENT, () -> x.approve(n));
        }
        for (int n = 1; n < 8; n++) {
            x.image(0, Checks.code(3, n));
            stops("after wrong approvals: " + n, x, 0, REFUSED);
        }
    }

    // Promise 4

    private static void bootBeginsAnew() {
        MeasuredStages x = new MeasuredStages();
        x.image(0, Checks.code(5, 3, 1, 1, 2, 5, 7, 6, 4, 9));
        for (int r = 0; r < 6; r++) {
            x.extend(r, r + 10);
        }
        stops("first boot", x, 0, UNKNOWN);
        CHECKS.due("a plain boot after it", x.boot(1), 1);
        CHECKS.due("boot anew: fault", x.fault(), 0);
        CHECKS.due("boot anew: acc", x.acc(), 0);
        CHECKS.due("boot anew: launched", x.launched(), 1);
        CHECKS.due("boot anew: steps", x.steps(), 1);
        CHECKS.due("boot anew: events", x.events(), 1);
        CHECKS.due("boot anew: register 0", x.register(0), Checks.h(0, Checks.digest(0)));
        for (int r = 1; r < 6; r++) {
            CHECKS.due("boot anew: register " + r, x.register(r), 0);
        }
        CHECKS.throwsDue("boot anew: old events are gone", NONE, () -> x.eventValue(1));
    }

    private static void bootKeepsImagesApprovalsAndBlobs() {
        MeasuredStages x = new MeasuredStages();
        x.image(0, Checks.code(3, 1, 4, 0, 1, 1));
        x.image(1, Checks.code(5, 5));
        x.approve(1);
        x.seal(32, 99);
        for (int time = 0; time < 3; time++) {
            CHECKS.due("boot " + time + " finds all that it needs", x.boot(0), 2);
            CHECKS.due("boot " + time + ": acc", x.acc(), Checks.h(99, 5));
        }
    }

    private static void bootOfWrongNumber() {
        MeasuredStages x = new MeasuredStages();
        x.image(0, Checks.code(5, 3, 1, 1, 9));
        stops("before wrong boots", x, 0, UNKNOWN);
        x.extend(4, 44);
        long[] before = seen(x);
        for (int n : NO_IMAGES) {
            CHECKS.throwsDue("boot(" + n + ")", ARGUMENT, () -> x.boot(n));
            sameSeen("boot(" + n + ")", seen(x), before);
        }
    }

    private static void bootThatFaults() {
        MeasuredStages x = new MeasuredStages();
        long first = Checks.code(5, 3, 2, 4, 9, 1, 1, 5, 1);
        long second = Checks.code(8, 0, 6, 3, 15);
        x.image(0, first);
        x.image(1, second);
        stops("fault in the second image", x, 0, UNKNOWN);
        long acc = Checks.h(0, 3);
        CHECKS.due("what was done stays: acc", x.acc(), acc);
        CHECKS.due("what was done stays: launched", x.launched(), 2);
        CHECKS.due("what was done stays: steps", x.steps(), 5);
        CHECKS.due("what was done stays: events", x.events(), 4);
        CHECKS.due("what was done stays: register 0", x.register(0), Checks.h(0, Checks.digest(first)));
        CHECKS.due("what was done stays: register 1", x.register(1), Checks.h(0, Checks.digest(second)));
        CHECKS.due("what was done stays: register 3", x.register(3), Checks.h(0, acc));
        CHECKS.due("what was done stays: register 4", x.register(4), Checks.h(0, 9));
        CHECKS.due("what was done stays: blob 0", x.unseal(0), acc);
    }

    private static void codeEnd() {
        MeasuredStages x = new MeasuredStages();
        x.image(0, Checks.code(1, 1, 1, 1, 5, 2));
        x.image(1, Checks.code(5, 1, 0, 9));
        CHECKS.due("an ended image goes back to its launcher", x.boot(0), 3);
        CHECKS.due("an ended image: acc", x.acc(), Checks.h(Checks.h(Checks.h(0, 1), 1), 2));
        CHECKS.due("an ended image: steps", x.steps(), 8);
        x.image(2, Checks.code(0, 9));
        CHECKS.due("nothing is read behind the end", x.boot(2), 1);
    }

    private static void codeLaunch() {
        MeasuredStages x = new MeasuredStages();
        for (int n = 0; n < 5; n++) {
            x.image(n, Checks.code(1, n + 9));
        }
        CHECKS.due("six deep", x.boot(0), 6);
        CHECKS.due("six deep: steps", x.steps(), 11);
        for (int d = 0; d < 6; d++) {
            CHECKS.due("six deep: event register " + d, x.eventRegister(d), d);
            long image = d < 5 ? Checks.code(1, d + 9) : 0;
            CHECKS.due("six deep: event value " + d, x.eventValue(d), Checks.digest(image));
            CHECKS.due("six deep: register " + d, x.register(d), Checks.h(0, Checks.digest(image)));
        }
        x.image(5, Checks.code(1, 6));
        stops("seven deep", x, 0, DEEP);
        CHECKS.due("seven deep: launched", x.launched(), 6);
        CHECKS.due("seven deep: steps", x.steps(), 5);
        CHECKS.due("seven deep: events", x.events(), 6);
    }

    private static void codeExtendByDigit() {
        MeasuredStages x = new MeasuredStages();
        for (int digit = 0; digit < 16; digit++) {
            long image = Checks.code(2, digit, 15 - digit);
            x.image(0, image);
            x.boot(0);
            CHECKS.due("2 " + digit + ": register", x.eventRegister(1), digit % 6);
            CHECKS.due("2 " + digit + ": value", x.eventValue(1), 15 - digit);
            long before = digit % 6 == 0 ? Checks.h(0, Checks.digest(image)) : 0;
            CHECKS.due("2 " + digit + ": held", x.register(digit % 6), Checks.h(before, 15 - digit));
        }
    }

    private static void codeDemandApproval() {
        MeasuredStages x = new MeasuredStages();
        x.approve(5);
        x.image(0, Checks.code(3, 5, 3, 13));
        CHECKS.due("3 takes x & 7", x.boot(0), 1);
        CHECKS.due("3: steps", x.steps(), 3);
        CHECKS.due("3: events", x.events(), 1);
        x.image(0, Checks.code(3, 5, 3, 12));
        stops("3 of another", x, 0, REFUSED);
        CHECKS.due("3 of another: steps", x.steps(), 1);
    }

    private static void codeLoad() {
        MeasuredStages x = new MeasuredStages();
        for (int k = 0; k < 8; k++) {
            x.seal(16, 100 + k);
        }
        for (int digit = 0; digit < 16; digit++) {
            x.image(0, Checks.code(4, digit));
            x.boot(0);
            CHECKS.due("4 " + digit, x.acc(), 100 + digit % 8);
        }
        x.image(0, Checks.code(5, 1, 2, 4, 1, 4, 3));
        stops("4 of one that is not open", x, 0, SEALED);
        CHECKS.due("4 of one that is not open: acc", x.acc(), Checks.h(0, 1));
        CHECKS.due("4 of one that is not open: steps", x.steps(), 2);
        x.discard(3);
        stops("4 of one that is free", x, 0, MISSING);
        CHECKS.due("4 of one that is free: acc", x.acc(), Checks.h(0, 1));
    }

    private static void codeHash() {
        MeasuredStages x = new MeasuredStages();
        for (int digit = 0; digit < 16; digit++) {
            x.image(0, Checks.code(5, digit, 5, 15 - digit));
            x.boot(0);
            CHECKS.due("5 " + digit, x.acc(), Checks.h(Checks.h(0, digit), 15 - digit));
        }
    }

    private static void codeExtendByAcc() {
        MeasuredStages x = new MeasuredStages();
        for (int digit = 0; digit < 16; digit++) {
            x.image(0, Checks.code(5, 1, 6, digit));
            x.boot(0);
            CHECKS.due("6 " + digit + ": register", x.eventRegister(1), digit % 6);
            CHECKS.due("6 " + digit + ": value", x.eventValue(1), Checks.h(0, 1));
            CHECKS.due("6 " + digit + ": acc", x.acc(), Checks.h(0, 1));
            CHECKS.due("6 " + digit + ": replays", x.replays(), true);
        }
    }

    private static void codePassOver() {
        MeasuredStages x = new MeasuredStages();
        x.image(0, Checks.code(7, 3, 9, 9, 9, 5, 2));
        x.boot(0);
        CHECKS.due("7 passes over when acc is 0", x.acc(), Checks.h(0, 2));
        CHECKS.due("7: steps", x.steps(), 3);
        x.image(0, Checks.code(5, 1, 7, 3, 5, 2));
        x.boot(0);
        CHECKS.due("7 goes on when acc is not 0", x.acc(), Checks.h(Checks.h(0, 1), 2));
        CHECKS.due("7 that goes on is a step", x.steps(), 4);
        x.image(0, Checks.code(7, 15, 9, 9, 9, 9, 9, 9, 9, 9, 9, 9, 9, 9, 9, 9));
        CHECKS.due("7 passes over the end", x.boot(0), 1);
        x.image(0, Checks.code(7, 0, 5, 4));
        x.boot(0);
        CHECKS.due("7 passes over none", x.acc(), Checks.h(0, 4));
        x.seal(32, 1L << 40);
        x.image(0, Checks.code(4, 0, 7, 2, 5, 6));
        x.boot(0);
        CHECKS.due("7 looks at the whole acc", x.acc(), Checks.h(1L << 40, 6));
    }

    private static void codeSeal() {
        for (int digit = 0; digit < 16; digit++) {
            MeasuredStages x = new MeasuredStages();
            x.image(0, Checks.code(5, 9, 8, digit));
            x.boot(0);
            CHECKS.due("8 " + digit + " seals acc", x.unseal(0), Checks.h(0, 9));
            CHECKS.due("8 " + digit + ": acc stays", x.acc(), Checks.h(0, 9));
            opensFor("8 " + digit, x, digit + 1);
        }
        MeasuredStages x = new MeasuredStages();
        x.seal(1, 5);
        x.seal(1, 6);
        x.discard(0);
        x.image(0, Checks.code(8, 0));
        x.boot(0);
        CHECKS.due("8 takes the least free", x.unseal(0), 0);
        for (int k = 2; k < 8; k++) {
            x.seal(1, k);
        }
        stops("8 when none is free", x, 0, CROWDED);
        CHECKS.due("8 when none is free: steps", x.steps(), 0);
        CHECKS.due("8 when none is free: blob 7", x.unseal(7), 7);
    }

    private static void codesUnknown() {
        MeasuredStages x = new MeasuredStages();
        for (int code = 9; code < 16; code++) {
            x.image(0, Checks.code(5, 1, code));
            stops("code " + code, x, 0, UNKNOWN);
            CHECKS.due("code " + code + ": steps", x.steps(), 1);
        }
        x.image(0, Checks.code(5, 9, 2, 10, 11));
        CHECKS.due("9 and more may be x and y", x.boot(0), 1);
    }

    private static void deepIsLookedAtBeforeTheLog() {
        MeasuredStages x = new MeasuredStages();
        fillTheLogAtDepth5(x);
        x.image(5, Checks.code(6, 0, 6, 0, 1, 6));
        stops("DEEP with a full log", x, 0, DEEP);
        CHECKS.due("DEEP with a full log: events", x.events(), 32);
        CHECKS.due("DEEP with a full log: launched", x.launched(), 6);
        x.image(4, Checks.code(6, 0, 6, 0, 6, 0, 1, 5));
        stops("FULL where it is not deep", x, 0, FULL);
        CHECKS.due("FULL where it is not deep: events", x.events(), 32);
        CHECKS.due("FULL where it is not deep: launched", x.launched(), 5);
    }

    /** Images 0 to 4 launch one another with 29 events; image 5 begins as the 30th, at depth 5. */
    private static void fillTheLogAtDepth5(MeasuredStages x) {
        x.image(0, Checks.code(6, 0, 6, 1, 6, 2, 6, 3, 6, 4, 6, 5, 6, 0, 1, 1));
        x.image(1, Checks.code(6, 0, 6, 1, 6, 2, 6, 3, 6, 4, 6, 5, 6, 0, 1, 2));
        x.image(2, Checks.code(6, 0, 6, 1, 6, 2, 6, 3, 6, 4, 6, 5, 6, 0, 1, 3));
        x.image(3, Checks.code(6, 0, 6, 0, 6, 0, 1, 4));
        x.image(4, Checks.code(1, 5));
    }

    private static void fullStopsEveryExtending() {
        long[] lasts = {Checks.code(6, 0, 6, 0, 6, 1), Checks.code(6, 0, 6, 0, 2, 1, 1)};
        for (long last : lasts) {
            MeasuredStages x = new MeasuredStages();
            fillTheLogAtDepth5(x);
            x.image(5, last);
            stops("FULL", x, 0, FULL);
            CHECKS.due("FULL: events", x.events(), 32);
            CHECKS.due("FULL: replays", x.replays(), true);
            CHECKS.due("FULL: steps", x.steps(), 31);
        }
        MeasuredStages x = new MeasuredStages();
        fillTheLogAtDepth5(x);
        x.image(5, Checks.code(6, 0, 6, 0, 5, 1));
        CHECKS.due("32 events are not too many", x.boot(0), 6);
        CHECKS.due("32 events", x.events(), 32);
        CHECKS.due("a boot after a full log", x.boot(7), 1);
        CHECKS.due("a boot after a full log: events", x.events(), 1);
    }

    /** 71 steps are done when image 2 begins, the last of the first image's launches. */
    private static void sevenTimesTenSteps(MeasuredStages x) {
        x.image(0, Checks.code(1, 1, 1, 1, 1, 1, 1, 1, 1, 1, 1, 1, 1, 1, 1, 2));
        x.image(1, Checks.code(5, 1, 5, 1, 5, 1, 5, 1, 5, 1, 5, 1, 5, 1, 5, 1));
        x.image(4, Checks.code(5, 1, 5, 1, 5, 1));
    }

    private static void tiredAfterAHundredSteps() {
        MeasuredStages x = new MeasuredStages();
        sevenTimesTenSteps(x);
        x.image(2, Checks.code(1, 1, 1, 1, 1, 4, 5, 1, 5, 1));
        CHECKS.due("a hundred steps", x.boot(0), 12);
        CHECKS.due("a hundred steps: steps", x.steps(), 100);
        CHECKS.due("a hundred steps: fault", x.fault(), 0);
        x.image(2, Checks.code(1, 1, 1, 1, 1, 4, 5, 1, 5, 1, 5, 1));
        stops("the first image's end is one too many", x, 0, TIRED);
        CHECKS.due("one too many: steps", x.steps(), 100);
        CHECKS.due("one too many: launched", x.launched(), 12);
    }

    private static void tiredBeforeAnythingElse() {
        int[][] lasts = {{9, 0}, {0, 0}, {1, 3}, {2, 1}, {3, 3}, {4, 0}, {5, 1}, {6, 1}, {7, 1}, {8, 1}};
        for (int[] last : lasts) {
            MeasuredStages x = new MeasuredStages();
            sevenTimesTenSteps(x);
            x.image(2, Checks.code(1, 1, 1, 1, 1, 4, 5, 1, 5, 1, 5, 1, 5, 1, last[0], last[1]));
            stops("TIRED at code " + last[0], x, 0, TIRED);
            CHECKS.due("TIRED at code " + last[0] + ": steps", x.steps(), 100);
            CHECKS.due("TIRED at code " + last[0] + ": launched", x.launched(), 12);
            CHECKS.due("TIRED at code " + last[0] + ": events", x.events(), 12);
            CHECKS.throwsDue("TIRED at code " + last[0] + ": blob 0", NONE, () -> x.unseal(0));
        }
        MeasuredStages x = new MeasuredStages();
        sevenTimesTenSteps(x);
        x.image(2, Checks.code(1, 1, 1, 1, 1, 4, 5, 1, 5, 1, 5, 1, 1, 3));
        stops("TIRED in an image launched as step 100", x, 0, TIRED);
        CHECKS.due("TIRED in an image launched as step 100: steps", x.steps(), 100);
        CHECKS.due("TIRED in an image launched as step 100: launched", x.launched(), 13);
        CHECKS.due("TIRED in an image launched as step 100: events", x.events(), 13);
    }

    // Promise 5

    private static void eachFaultHasItsNumber() {
        MeasuredStages x = new MeasuredStages();
        x.image(0, Checks.code(9));
        stops("UNKNOWN", x, 0, 1);
        x.image(0, Checks.code(1, 0));
        stops("DEEP", x, 0, 2);
        sevenTimesTenSteps(x);
        x.image(2, Checks.code(1, 1, 1, 1, 1, 1));
        stops("TIRED", x, 0, 3);
        x.image(0, Checks.code(1, 1, 1, 1, 1, 1, 1, 1, 1, 1));
        x.image(1, Checks.code(6, 0, 6, 0, 6, 0, 6, 0, 6, 0, 6, 0, 6, 0));
        stops("FULL", x, 0, 4);
        x.image(0, Checks.code(3, 7));
        stops("REFUSED", x, 0, 5);
        x.image(0, Checks.code(4, 0));
        stops("MISSING", x, 0, 6);
        x.extend(5, 1);
        x.seal(63, 1);
        stops("SEALED", x, 0, 7);
        for (int k = 1; k < 8; k++) {
            x.seal(1, 1);
        }
        x.image(0, Checks.code(8, 0));
        stops("CROWDED", x, 0, 8);
        x.discard(0);
        CHECKS.due("none", x.boot(0), 1);
        CHECKS.due("none: fault", x.fault(), 0);
    }

    // Promises 6 and 7

    private static void launchedAndSteps() {
        MeasuredStages x = new MeasuredStages();
        x.image(0, Checks.code(1, 1, 1, 2, 5, 5));
        x.image(1, Checks.code(1, 2, 5, 5));
        CHECKS.due("four images", x.boot(0), 4);
        CHECKS.due("four images: launched", x.launched(), 4);
        CHECKS.due("four images: steps", x.steps(), 9);
        x.extend(0, 1);
        x.seal(1, 1);
        CHECKS.due("other calls launch none", x.launched(), 4);
        CHECKS.due("other calls are no steps", x.steps(), 9);
        CHECKS.due("one image", x.boot(2), 1);
        CHECKS.due("one image: launched", x.launched(), 1);
        CHECKS.due("one image: steps", x.steps(), 1);
    }

    // Promise 8

    private static void accStays() {
        MeasuredStages x = new MeasuredStages();
        x.image(0, Checks.code(5, 7));
        x.boot(0);
        x.extend(1, 2);
        x.seal(1, 3);
        CHECKS.due("acc is the latest boot's", x.acc(), Checks.h(0, 7));
        x.image(0, Checks.code(5, 8, 15));
        stops("acc of a stopped boot", x, 0, UNKNOWN);
        CHECKS.due("acc of a stopped boot", x.acc(), Checks.h(0, 8));
    }

    // Promise 9

    private static void registers() {
        MeasuredStages x = new MeasuredStages();
        for (int r = 0; r < 6; r++) {
            x.extend(r, 1000 + r);
        }
        for (int r = 0; r < 6; r++) {
            CHECKS.due("register " + r, x.register(r), Checks.h(0, 1000 + r));
        }
        for (int r : NO_REGISTERS) {
            CHECKS.throwsDue("register(" + r + ")", INDEX, () -> x.register(r));
        }
    }

    // Promise 10

    private static void extendNotes() {
        MeasuredStages x = new MeasuredStages();
        long held = 0;
        long[] values = {0, 1, -1, Long.MIN_VALUE, Long.MAX_VALUE, 1442695040888963407L};
        for (long v : values) {
            x.extend(3, v);
            held = Checks.h(held, v);
            CHECKS.due("extend by " + v, x.register(3), held);
            CHECKS.due("extend by " + v + ": event", x.eventValue(x.events() - 1), v);
            CHECKS.due("extend by " + v + ": event's register", x.eventRegister(x.events() - 1), 3);
        }
        CHECKS.due("extend leaves the others", x.register(2), 0);
        x.boot(0);
        x.extend(0, 5);
        CHECKS.due("extend after a boot", x.register(0), Checks.h(Checks.h(0, Checks.digest(0)), 5));
        CHECKS.due("extend after a boot: events", x.events(), 2);
    }

    private static void extendUntilFull() {
        MeasuredStages x = new MeasuredStages();
        for (int k = 0; k < 32; k++) {
            x.extend(k % 6, k);
        }
        long[] before = seen(x);
        CHECKS.due("a full log: events", x.events(), 32);
        CHECKS.throwsDue("extend with a full log", STATE, () -> x.extend(0, 1));
        sameSeen("extend with a full log", seen(x), before);
        for (int r : NO_REGISTERS) {
            CHECKS.throwsDue("extend(" + r + ") with a full log", INDEX, () -> x.extend(r, 1));
        }
        sameSeen("wrong registers", seen(x), before);
        x.boot(0);
        long[] after = seen(x);
        for (int r : NO_REGISTERS) {
            CHECKS.throwsDue("extend(" + r + ")", INDEX, () -> x.extend(r, 1));
        }
        sameSeen("wrong registers with room", seen(x), after);
    }

    // Promises 11, 12 and 13

    private static void eventsAreNumbered() {
        MeasuredStages x = new MeasuredStages();
        for (int k = 0; k < 32; k++) {
            int end = k;
            CHECKS.due("events", x.events(), k);
            CHECKS.throwsDue("eventRegister behind the log", NONE, () -> x.eventRegister(end));
            CHECKS.throwsDue("eventValue behind the log", NONE, () -> x.eventValue(end));
            CHECKS.throwsDue("tamper behind the log", NONE, () -> x.tamper(end, 1));
            x.extend((k * 5 + 2) % 6, -k);
        }
        for (int k = 0; k < 32; k++) {
            CHECKS.due("eventRegister " + k, x.eventRegister(k), (k * 5 + 2) % 6);
            CHECKS.due("eventValue " + k, x.eventValue(k), -k);
        }
        for (int k : new int[] {-1, 32, 33, Integer.MIN_VALUE, Integer.MAX_VALUE}) {
            CHECKS.throwsDue("eventRegister(" + k + ")", NONE, () -> x.eventRegister(k));
            CHECKS.throwsDue("eventValue(" + k + ")", NONE, () -> x.eventValue(k));
            CHECKS.throwsDue("tamper(" + k + ")", NONE, () -> x.tamper(k, 1));
        }
    }

    // Promise 14

    private static void tamperChangesTheLogAlone() {
        MeasuredStages x = new MeasuredStages();
        x.extend(2, 12);
        x.extend(4, 34);
        long[] before = seen(x);
        x.tamper(1, 7);
        CHECKS.due("tamper: value", x.eventValue(1), 34 ^ 7);
        CHECKS.due("tamper: register of the event", x.eventRegister(1), 4);
        CHECKS.due("tamper: the other value", x.eventValue(0), 12);
        CHECKS.due("tamper: register 4", x.register(4), Checks.h(0, 34));
        CHECKS.due("tamper: events", x.events(), 2);
        x.tamper(1, Long.MIN_VALUE);
        CHECKS.due("tamper: twice", x.eventValue(1), 34 ^ 7 ^ Long.MIN_VALUE);
        x.tamper(1, Long.MIN_VALUE ^ 7);
        sameSeen("tamper and back", seen(x), before);
    }

    // Promise 15

    private static void replaysTheLog() {
        MeasuredStages x = new MeasuredStages();
        for (int k = 0; k < 12; k++) {
            x.extend(k % 6, k * 77);
            CHECKS.due("replays as it grows", x.replays(), true);
        }
        for (int k = 0; k < 12; k++) {
            x.tamper(k, 1L << 5 * k);
            CHECKS.due("replays with event " + k + " changed", x.replays(), false);
            CHECKS.due("replays asked again", x.replays(), false);
            x.tamper(k, 0);
            CHECKS.due("replays with 0 more", x.replays(), false);
            x.tamper(k, 1L << 5 * k);
            CHECKS.due("replays with event " + k + " changed back", x.replays(), true);
        }
        CHECKS.due("replays notes nothing", x.events(), 12);
        x.tamper(3, 1);
        x.boot(0);
        CHECKS.due("replays after a boot", x.replays(), true);
    }

    // Promise 16

    private static void sealTakesTheLeastFree() {
        MeasuredStages x = new MeasuredStages();
        for (int k = 0; k < 8; k++) {
            CHECKS.due("seal " + k, x.seal(k + 1, 50 + k), k);
        }
        CHECKS.throwsDue("seal when none is free", STATE, () -> x.seal(1, 1));
        x.discard(6);
        x.discard(2);
        CHECKS.due("seal to the least free", x.seal(3, 91), 2);
        CHECKS.due("seal to the other", x.seal(3, 92), 6);
        CHECKS.throwsDue("seal when none is free again", STATE, () -> x.seal(1, 1));
        long[] want = {50, 51, 91, 53, 54, 55, 92, 57};
        for (int k = 0; k < 8; k++) {
            CHECKS.due("sealed " + k, x.unseal(k), want[k]);
        }
    }

    private static void sealRefuses() {
        MeasuredStages x = new MeasuredStages();
        for (int mask : NO_MASKS) {
            CHECKS.throwsDue("seal(" + mask + ")", ARGUMENT, () -> x.seal(mask, 1));
        }
        CHECKS.throwsDue("wrong masks seal nothing", NONE, () -> x.unseal(0));
        for (int k = 0; k < 8; k++) {
            x.seal(63, k);
        }
        for (int mask : NO_MASKS) {
            CHECKS.throwsDue("seal(" + mask + ") when none is free", ARGUMENT, () -> x.seal(mask, 1));
        }
    }

    // Promise 17

    private static void unsealOnlyWhenOpen() {
        for (int mask = 1; mask < 64; mask++) {
            MeasuredStages x = new MeasuredStages();
            x.boot(0);
            long secret = mask % 2 == 0 ? -mask : mask;
            CHECKS.due("seal to " + mask, x.seal(mask, secret), 0);
            CHECKS.due("unseal " + mask, x.unseal(0), secret);
            CHECKS.due("unseal " + mask + " again", x.unseal(0), secret);
            opensFor("seal to " + mask, x, mask);
        }
        MeasuredStages x = new MeasuredStages();
        x.seal(2, 0);
        CHECKS.due("a secret may be 0", x.unseal(0), 0);
        x.extend(1, 3);
        x.seal(2, 8);
        CHECKS.throwsDue("sealed to what was", STATE, () -> x.unseal(0));
        CHECKS.due("sealed to what is", x.unseal(1), 8);
        x.tamper(0, 1);
        CHECKS.due("a changed log does not seal", x.unseal(1), 8);
        x.boot(0);
        CHECKS.due("open when the registers hold it again", x.unseal(0), 0);
        CHECKS.throwsDue("not open before they do", STATE, () -> x.unseal(1));
        x.extend(1, 3);
        CHECKS.due("open when they do", x.unseal(1), 8);
    }

    /** Blob 0 closes when a register of the mask is extended, and only then; each boot of image 0 opens it. */
    private static void opensFor(String what, MeasuredStages x, int mask) {
        for (int r = 0; r < 6; r++) {
            x.boot(0);
            long secret = x.unseal(0);
            x.extend(r, 1);
            if ((mask >> r & 1) == 1) {
                CHECKS.throwsDue(what + ": register " + r + " closes it", STATE, () -> x.unseal(0));
            } else {
                CHECKS.due(what + ": register " + r + " is none of it", x.unseal(0), secret);
            }
        }
    }

    private static void unsealOfWrongNumber() {
        MeasuredStages x = new MeasuredStages();
        for (int k = 0; k < 8; k++) {
            x.seal(1, k);
        }
        for (int k : NO_BLOBS) {
            CHECKS.throwsDue("unseal(" + k + ")", NONE, () -> x.unseal(k));
            CHECKS.throwsDue("discard(" + k + ")", NONE, () -> x.discard(k));
        }
        x.extend(0, 1);
        x.discard(4);
        CHECKS.throwsDue("unseal of a free one that was not open", NONE, () -> x.unseal(4));
        CHECKS.throwsDue("unseal of one that is not open", STATE, () -> x.unseal(5));
    }

    // Promise 18

    private static void discardFrees() {
        MeasuredStages x = new MeasuredStages();
        for (int k = 0; k < 8; k++) {
            x.seal(1, k);
        }
        x.extend(0, 1);
        x.discard(3);
        CHECKS.throwsDue("discard twice", NONE, () -> x.discard(3));
        CHECKS.throwsDue("unseal of a free one", NONE, () -> x.unseal(3));
        CHECKS.due("seal takes its place", x.seal(1, 33), 3);
        CHECKS.due("the new secret", x.unseal(3), 33);
        x.boot(0);
        CHECKS.throwsDue("the others stay", STATE, () -> x.unseal(2));
        x.discard(3);
        CHECKS.throwsDue("free again", NONE, () -> x.discard(3));
    }

    // Promise 19

    private static void quoteHasEveryPart() {
        MeasuredStages x = new MeasuredStages();
        long[] held = new long[6];
        for (int r = 0; r < 6; r++) {
            x.extend(r, 60 + r);
            held[r] = Checks.h(0, 60 + r);
        }
        for (int mask = 1; mask < 64; mask++) {
            long policy = Checks.h(9, mask);
            for (int r = 0; r < 6; r++) {
                policy = (mask & 1 << r) != 0 ? Checks.h(policy, held[r]) : policy;
            }
            long key = mask * 1000003L;
            long nonce = -mask;
            CHECKS.due("quote of " + mask, x.quote(key, nonce, mask), Checks.h(Checks.h(key, nonce), policy));
        }
        for (int mask : NO_MASKS) {
            CHECKS.throwsDue("quote(" + mask + ")", ARGUMENT, () -> x.quote(1, 2, mask));
        }
    }

    /** All that the face shows without changing anything, but for the blobs. */
    private static long[] seen(MeasuredStages x) {
        long[] all = new long[12 + 64];
        all[0] = x.fault();
        all[1] = x.launched();
        all[2] = x.steps();
        all[3] = x.acc();
        all[4] = x.events();
        all[5] = x.replays() ? 1 : 0;
        for (int r = 0; r < 6; r++) {
            all[6 + r] = x.register(r);
        }
        for (int k = 0; k < x.events(); k++) {
            all[12 + 2 * k] = x.eventRegister(k);
            all[13 + 2 * k] = x.eventValue(k);
        }
        return all;
    }

    private static void sameSeen(String what, long[] got, long[] want) {
        for (int i = 0; i < want.length; i++) {
            CHECKS.due(what + " changes nothing, part " + i, got[i], want[i]);
        }
    }
}
