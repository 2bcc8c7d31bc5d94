import java.util.List;
import java.util.function.Consumer;

/**
 * The boundary cases that the promises name, promise by promise: above each test stands the sentence
 * that it is for. That a refused call changes nothing is tried on a machine with room and on a full one.
 */
public final class CallsEdgesTest extends MachineChecks {
    private static final List<Consumer<MeasuredStages>> LIVES = List.of(Twins::withRoom, Twins::full);
    private static final List<Consumer<MeasuredStages>> NEW_ONES = List.of(x -> { });

    public static void main(String[] args) {
        newRegistersAndAccAre0();
        newImagesAre0();
        nothingIsApprovedInANewOne();
        newBlobsAreFree();
        nothingWasLaunchedInANewOne();
        firstAndLastImage();
        imageBelow0OrAbove7();
        approvedAsItIsNow();
        approvedStaysWhenTheImageChanges();
        approveBelow0OrAbove7();
        bootMakesRegistersAndAcc0();
        bootEmptiesTheLog();
        bootTakesTheFaultBack();
        bootLeavesImagesApprovalsAndBlobs();
        bootAnswersOneTo32();
        bootBelow0OrAbove7();
        wrongBootLeavesWhatTheBootBeforeTold();
        aStoppedBootLeavesAllAsItIsThen();
        theFaultIsKept();
        noFaultWithoutABoot();
        launchedSinceTheLatestBoot();
        stepsSinceTheLatestBoot();
        accStaysBetweenBoots();
        registerBelow0OrAbove5();
        extendBetweenBoots();
        extendBelow0OrAbove5();
        extendWithAFullLog();
        eventsFrom0To32();
        eventRegisterOutsideTheLog();
        eventValueOutsideTheLog();
        tamperCombines();
        tamperOutsideTheLog();
        replaysAnEmptyLog();
        replaysInOrder();
        replaysByWhatItComesTo();
        replaysEveryRegister();
        replaysAFullLog();
        sealBelow1OrAbove63();
        sealWhenNoneIsFree();
        unsealOfNoSuchBlob();
        unsealOfAFreeBlob();
        unsealOfOneThatIsNotOpen();
        discardOfOneThatIsNotOpen();
        discardOfNoSuchBlob();
        discardOfAFreeBlob();
        quoteOfEveryKeyAndNonce();
        quoteBelow1OrAbove63();
        CHECKS.finish("CallsEdgesTest");
    }

    // Promise 1: "All registers, images and ACC are 0, the log is empty"

    private static void newRegistersAndAccAre0() {
        MeasuredStages x = new MeasuredStages();
        for (int r = 0; r <= 5; r++) {
            CHECKS.due("new: register " + r, x.register(r), 0);
        }
        CHECKS.due("new: acc", x.acc(), 0);
        CHECKS.due("new: events", x.events(), 0);
        CHECKS.throwsDue("new: eventRegister(0)", NONE, () -> x.eventRegister(0));
        CHECKS.throwsDue("new: eventValue(0)", NONE, () -> x.eventValue(0));
        CHECKS.throwsDue("new: tamper(0)", NONE, () -> x.tamper(0, 1));
    }

    private static void newImagesAre0() {
        for (int n = 0; n <= 7; n++) {
            MeasuredStages x = new MeasuredStages();
            CHECKS.due("new: boot " + n, x.boot(n), 1);
            CHECKS.due("new: digest of image " + n, x.eventValue(0), Checks.digest(0));
        }
    }

    // Promise 1: "nothing is approved"

    private static void nothingIsApprovedInANewOne() {
        for (int n = 0; n <= 7; n++) {
            MeasuredStages x = new MeasuredStages();
            int first = (n + 1) % 8;
            x.image(first, Checks.code(3, n));
            stops("new: approval of " + n, x, first, REFUSED);
        }
    }

    // Promise 1: "all blobs are free"

    private static void newBlobsAreFree() {
        MeasuredStages x = new MeasuredStages();
        for (int k = 0; k <= 7; k++) {
            int blob = k;
            CHECKS.throwsDue("new: unseal " + k, NONE, () -> x.unseal(blob));
            CHECKS.throwsDue("new: discard " + k, NONE, () -> x.discard(blob));
            x.image(0, Checks.code(4, k));
            stops("new: blob " + k, x, 0, MISSING);
        }
        CHECKS.due("new: the first to be sealed", x.seal(1, 1), 0);
    }

    // Promise 1: "nothing was launched, the fault is 0."

    private static void nothingWasLaunchedInANewOne() {
        MeasuredStages x = new MeasuredStages();
        CHECKS.due("new: launched", x.launched(), 0);
        CHECKS.due("new: steps", x.steps(), 0);
        CHECKS.due("new: fault", x.fault(), 0);
    }

    // Promise 2: "Image n becomes code."

    private static void firstAndLastImage() {
        MeasuredStages x = new MeasuredStages();
        x.image(0, Checks.code(5, 1));
        x.image(7, Checks.code(5, 2));
        x.boot(0);
        CHECKS.due("image 0", x.acc(), Checks.h(0, 1));
        x.boot(7);
        CHECKS.due("image 7", x.acc(), Checks.h(0, 2));
        x.image(7, Checks.code(5, 3));
        CHECKS.due("acc before the changed image is booted", x.acc(), Checks.h(0, 2));
        x.boot(7);
        CHECKS.due("image 7 changed", x.acc(), Checks.h(0, 3));
        for (int n = 1; n < 7; n++) {
            x.boot(n);
            CHECKS.due("image " + n + " is none of them", x.acc(), 0);
        }
    }

    // Promise 2: "Throws IllegalArgumentException when n is not 0 .. 7."

    private static void imageBelow0OrAbove7() {
        for (int n : NO_IMAGES) {
            refused("image(" + n + ")", LIVES, ARGUMENT, x -> x.image(n, Checks.code(5, 8)));
        }
    }

    // Promise 3: "The digest of image n, as it is now, becomes its approved one."

    private static void approvedAsItIsNow() {
        for (int n = 0; n <= 7; n++) {
            MeasuredStages x = new MeasuredStages();
            int first = (n + 1) % 8;
            x.image(first, Checks.code(3, n));
            x.image(n, -1);
            x.approve(n);
            CHECKS.due("approved " + n, boot(x, first), 0);
            x.image(n, 0);
            x.approve(n);
            CHECKS.due("approved " + n + " anew", boot(x, first), 0);
            x.image(n, -1);
            stops("the former one of " + n, x, first, REFUSED);
            x.approve(n);
            x.approve(n);
            CHECKS.due("approved " + n + " twice", boot(x, first), 0);
        }
    }

    // Promise 3: "(It stays that when the image changes.)"

    private static void approvedStaysWhenTheImageChanges() {
        MeasuredStages x = new MeasuredStages();
        x.image(0, Checks.code(3, 1));
        x.approve(1);
        x.image(1, 1);
        stops("another image", x, 0, REFUSED);
        x.image(1, 0);
        CHECKS.due("the approved image again", boot(x, 0), 0);
        x.image(2, 1);
        x.approve(2);
        CHECKS.due("another approval", boot(x, 0), 0);
    }

    // Promise 3: "Throws IllegalArgumentException when n is not 0 .. 7."

    private static void approveBelow0OrAbove7() {
        for (int n : NO_IMAGES) {
            refused("approve(" + n + ")", LIVES, ARGUMENT, x -> x.approve(n));
        }
    }

    // Promise 4: "registers, ACC and the number of images launched become 0"

    private static void bootMakesRegistersAndAcc0() {
        MeasuredStages x = new MeasuredStages();
        fullAtDepth5(x, Checks.code(5, 1));
        stops("a boot that fills the log", x, 0, TIRED);
        CHECKS.due("a boot that fills the log: launched", x.launched(), 15);
        x.image(0, 0);
        CHECKS.due("the boot after it", x.boot(0), 1);
        CHECKS.due("the boot after it: register 0", x.register(0), Checks.h(0, Checks.digest(0)));
        for (int r = 1; r <= 5; r++) {
            CHECKS.due("the boot after it: register " + r, x.register(r), 0);
        }
        CHECKS.due("the boot after it: acc", x.acc(), 0);
        CHECKS.due("the boot after it: launched", x.launched(), 1);
    }

    // Promise 4: "the log empty"

    private static void bootEmptiesTheLog() {
        MeasuredStages x = new MeasuredStages();
        for (int k = 0; k < 32; k++) {
            x.extend(k % 6, k);
        }
        x.tamper(0, 1);
        CHECKS.due("a boot with a full log", boot(x, 0), 0);
        CHECKS.due("a boot with a full log: events", x.events(), 1);
        CHECKS.due("a boot with a full log: event 0", x.eventValue(0), Checks.digest(0));
        CHECKS.due("a boot with a full log: replays", x.replays(), true);
        for (int k = 1; k < 32; k++) {
            int gone = k;
            CHECKS.throwsDue("a boot with a full log: event " + k, NONE, () -> x.eventValue(gone));
        }
    }

    // Promise 4: "the fault 0"

    private static void bootTakesTheFaultBack() {
        MeasuredStages x = new MeasuredStages();
        x.image(0, Checks.code(9));
        stops("a boot with a fault", x, 0, UNKNOWN);
        CHECKS.due("a boot without one", x.boot(1), 1);
        CHECKS.due("a boot without one: fault", x.fault(), 0);
        x.image(0, Checks.code(3, 1));
        stops("a boot with another fault", x, 0, REFUSED);
    }

    // Promise 4: "(images, approved digests and blobs stay)"

    private static void bootLeavesImagesApprovalsAndBlobs() {
        MeasuredStages x = new MeasuredStages();
        x.image(0, Checks.code(3, 7, 4, 7, 1, 7));
        x.image(7, Checks.code(5, 5));
        x.image(6, Checks.code(9));
        x.approve(7);
        for (int k = 0; k <= 7; k++) {
            x.seal(32, 90 + k);
        }
        for (int time = 0; time < 4; time++) {
            stops("a boot with a fault between", x, 6, UNKNOWN);
            CHECKS.due("boot " + time, x.boot(0), 2);
            CHECKS.due("boot " + time + ": acc", x.acc(), Checks.h(97, 5));
        }
        for (int k = 0; k <= 7; k++) {
            CHECKS.due("blob " + k + " stays", x.unseal(k), 90 + k);
        }
    }

    // Promise 4: "Answers the number of images launched when the machine has started."

    private static void bootAnswersOneTo32() {
        MeasuredStages x = new MeasuredStages();
        CHECKS.due("one image", x.boot(0), 1);
        x.image(0, Checks.code(1, 1, 1, 1, 1, 1, 1, 1, 1, 1, 1, 1, 1, 1, 1, 3));
        x.image(1, Checks.code(1, 2, 1, 2, 1, 2));
        x.image(3, Checks.code(1, 2, 1, 2));
        CHECKS.due("as many as the log takes", x.boot(0), 32);
        CHECKS.due("as many as the log takes: launched", x.launched(), 32);
        x.image(3, Checks.code(1, 2, 1, 2, 1, 2));
        stops("one more", x, 0, FULL);
        CHECKS.due("one more: launched", x.launched(), 32);
    }

    // Promise 4: "Throws IllegalArgumentException when n is not 0 .. 7 (and changes nothing)"

    private static void bootBelow0OrAbove7() {
        for (int n : NO_IMAGES) {
            refused("boot(" + n + ")", LIVES, ARGUMENT, x -> x.boot(n));
            refused("boot(" + n + ") of a new one", NEW_ONES, ARGUMENT, x -> x.boot(n));
        }
    }

    // Promise 4: "(what the boot before told stays, too)"

    private static void wrongBootLeavesWhatTheBootBeforeTold() {
        for (int n : NO_IMAGES) {
            MeasuredStages x = new MeasuredStages();
            x.image(0, Checks.code(5, 1, 1, 1));
            x.image(1, Checks.code(5, 2, 9));
            stops("before boot(" + n + ")", x, 0, UNKNOWN);
            CHECKS.throwsDue("boot(" + n + ")", ARGUMENT, () -> x.boot(n));
            CHECKS.due("after boot(" + n + "): fault", x.fault(), UNKNOWN);
            CHECKS.due("after boot(" + n + "): launched", x.launched(), 2);
            CHECKS.due("after boot(" + n + "): steps", x.steps(), 3);
            CHECKS.due("after boot(" + n + "): acc", x.acc(), Checks.h(Checks.h(0, 1), 2));
            CHECKS.due("after boot(" + n + "): events", x.events(), 2);
        }
    }

    // Promise 4: "IllegalStateException when a fault stops it: all is as it is then, and the fault is kept."

    private static void aStoppedBootLeavesAllAsItIsThen() {
        MeasuredStages x = new MeasuredStages();
        long first = Checks.code(5, 7, 8, 1, 6, 5, 1, 1);
        long second = Checks.code(2, 5, 12, 8, 15, 15);
        x.image(0, first);
        x.image(1, second);
        stops("a stopped boot", x, 0, UNKNOWN);
        long acc = Checks.h(0, 7);
        CHECKS.due("a stopped boot: acc", x.acc(), acc);
        CHECKS.due("a stopped boot: launched", x.launched(), 2);
        CHECKS.due("a stopped boot: steps", x.steps(), 6);
        CHECKS.due("a stopped boot: register 0", x.register(0), Checks.h(0, Checks.digest(first)));
        CHECKS.due("a stopped boot: register 1", x.register(1), Checks.h(0, Checks.digest(second)));
        CHECKS.due("a stopped boot: register 5", x.register(5), Checks.h(Checks.h(0, acc), 12));
        int[] registers = {0, 5, 1, 5};
        long[] values = {Checks.digest(first), acc, Checks.digest(second), 12};
        CHECKS.due("a stopped boot: events", x.events(), 4);
        for (int k = 0; k < 4; k++) {
            CHECKS.due("a stopped boot: register of event " + k, x.eventRegister(k), registers[k]);
            CHECKS.due("a stopped boot: value of event " + k, x.eventValue(k), values[k]);
        }
        CHECKS.throwsDue("a stopped boot: blob 0, to a register that changed since", STATE, () -> x.unseal(0));
        CHECKS.due("a stopped boot: blob 1", x.unseal(1), acc);
        CHECKS.due("a stopped boot: replays", x.replays(), true);
    }

    // Promise 5: "The fault that stopped the latest boot"

    private static void theFaultIsKept() {
        MeasuredStages x = new MeasuredStages();
        x.image(0, Checks.code(4, 3));
        stops("a boot with a fault", x, 0, MISSING);
        x.image(0, 0);
        x.approve(0);
        x.extend(0, 1);
        x.tamper(0, 1);
        x.seal(1, 1);
        x.discard(0);
        x.replays();
        x.quote(1, 1, 1);
        CHECKS.due("the fault after other calls", x.fault(), MISSING);
        CHECKS.throwsDue("a refused call", NONE, () -> x.discard(0));
        CHECKS.due("the fault after a refused call", x.fault(), MISSING);
        x.image(0, Checks.code(9));
        stops("a boot with another fault", x, 0, UNKNOWN);
    }

    // Promise 5: "0 when none did or there was none."

    private static void noFaultWithoutABoot() {
        MeasuredStages x = new MeasuredStages();
        for (int k = 0; k < 32; k++) {
            x.extend(0, k);
        }
        CHECKS.throwsDue("no boot, a full log", STATE, () -> x.extend(0, 1));
        CHECKS.due("no boot, a full log: fault", x.fault(), 0);
        for (int k = 0; k <= 7; k++) {
            x.seal(1, 1);
        }
        CHECKS.throwsDue("no boot, no free blob", STATE, () -> x.seal(1, 1));
        CHECKS.due("no boot, no free blob: fault", x.fault(), 0);
        x.boot(0);
        CHECKS.due("a boot that none stopped: fault", x.fault(), 0);
    }

    // Promise 6: "The number of images launched since the latest boot began."

    private static void launchedSinceTheLatestBoot() {
        MeasuredStages x = new MeasuredStages();
        x.image(0, Checks.code(1, 1, 1, 1));
        CHECKS.due("launched: boot", x.boot(0), 3);
        x.extend(0, 1);
        CHECKS.due("launched after an extend", x.launched(), 3);
        x.image(1, Checks.code(11));
        stops("launched: stopped boot", x, 0, UNKNOWN);
        CHECKS.due("launched by a stopped boot", x.launched(), 2);
        stops("launched: stopped boot of one", x, 1, UNKNOWN);
        CHECKS.due("launched by a stopped boot of one", x.launched(), 1);
    }

    // Promise 7: "The number of steps done since the latest boot began."

    private static void stepsSinceTheLatestBoot() {
        MeasuredStages x = new MeasuredStages();
        x.extend(0, 1);
        CHECKS.due("steps before a boot", x.steps(), 0);
        beforeStep101(x, Checks.code(5, 1, 5, 1));
        x.boot(0);
        CHECKS.due("steps of a long boot", x.steps(), 100);
        x.boot(7);
        CHECKS.due("steps of a short boot", x.steps(), 1);
        x.image(7, Checks.code(9));
        stops("a boot stopped at once", x, 7, UNKNOWN);
        CHECKS.due("steps of a boot stopped at once", x.steps(), 0);
        x.boot(0);
        CHECKS.due("steps of a long boot again", x.steps(), 100);
    }

    // Promise 8: "ACC."

    private static void accStaysBetweenBoots() {
        for (long secret : EDGE_LONGS) {
            MeasuredStages x = new MeasuredStages();
            x.image(0, Checks.code(4, 0));
            x.seal(32, secret);
            x.boot(0);
            CHECKS.due("acc of " + secret, x.acc(), secret);
            x.discard(0);
            x.extend(5, 1);
            CHECKS.due("acc of " + secret + " after other calls", x.acc(), secret);
        }
    }

    // Promise 9: "Throws IndexOutOfBoundsException when r is not 0 .. 5."

    private static void registerBelow0OrAbove5() {
        MeasuredStages x = new MeasuredStages();
        hold(x, 0, 10);
        hold(x, 5, 15);
        CHECKS.due("register 0", x.register(0), 10);
        CHECKS.due("register 5", x.register(5), 15);
        for (int r : NO_REGISTERS) {
            refused("register(" + r + ")", LIVES, INDEX, y -> y.register(r));
        }
    }

    // Promise 10: "(Also between boots; boot() begins with an empty log.)"

    private static void extendBetweenBoots() {
        MeasuredStages x = new MeasuredStages();
        x.extend(5, 1);
        CHECKS.due("extend before a boot", x.register(5), Checks.h(0, 1));
        for (int time = 0; time < 3; time++) {
            x.boot(0);
            CHECKS.due("boot " + time + " begins with an empty log", x.events(), 1);
            for (int k = 1; k < 32; k++) {
                x.extend(0, k);
            }
            CHECKS.due("extend until the log is full", x.events(), 32);
            CHECKS.throwsDue("extend with a full log", STATE, () -> x.extend(0, 1));
        }
        x.image(0, Checks.code(9));
        stops("a stopped boot", x, 0, UNKNOWN);
        x.extend(0, 2);
        CHECKS.due("extend after a stopped boot", x.events(), 2);
        CHECKS.due("extend after a stopped boot: fault", x.fault(), UNKNOWN);
    }

    // Promise 10: "Throws IndexOutOfBoundsException when r is not 0 .. 5"

    private static void extendBelow0OrAbove5() {
        MeasuredStages x = new MeasuredStages();
        x.extend(0, 1);
        x.extend(5, 1);
        CHECKS.due("extend of 0 and 5", x.events(), 2);
        for (int r : NO_REGISTERS) {
            refused("extend(" + r + ")", LIVES, INDEX, y -> y.extend(r, 1));
        }
    }

    // Promise 10: "IllegalStateException when the log is full."

    private static void extendWithAFullLog() {
        for (int r = 0; r <= 5; r++) {
            int register = r;
            refused("extend(" + r + ") with a full log", List.of(Twins::full), STATE, x -> x.extend(register, 1));
        }
    }

    // Promise 11: "The number of events in the log."

    private static void eventsFrom0To32() {
        MeasuredStages x = new MeasuredStages();
        for (int k = 0; k < 32; k++) {
            CHECKS.due("events", x.events(), k);
            x.extend(k % 6, 0);
        }
        CHECKS.due("events of a full log", x.events(), 32);
        x.tamper(31, 1);
        x.replays();
        CHECKS.due("events after tamper and replays", x.events(), 32);
        CHECKS.throwsDue("one more", STATE, () -> x.extend(0, 0));
        CHECKS.due("events after a refused one", x.events(), 32);
    }

    // Promise 12: "The register of event k (from 0). Throws NoSuchElementException when there is none."

    private static void eventRegisterOutsideTheLog() {
        MeasuredStages x = new MeasuredStages();
        for (int k = 0; k < 32; k++) {
            int behind = k;
            CHECKS.throwsDue("eventRegister(" + k + ") of " + k, NONE, () -> x.eventRegister(behind));
            x.extend(5 - k % 6, 1);
            CHECKS.due("eventRegister(" + k + ")", x.eventRegister(k), 5 - k % 6);
            CHECKS.due("eventRegister(0)", x.eventRegister(0), 5);
        }
        for (int k : noEvents()) {
            refused("eventRegister(" + k + ")", LIVES, NONE, y -> y.eventRegister(k));
        }
    }

    // Promise 13: "The value of event k. Throws NoSuchElementException when there is none."

    private static void eventValueOutsideTheLog() {
        MeasuredStages x = new MeasuredStages();
        for (int k = 0; k < 32; k++) {
            int behind = k;
            CHECKS.throwsDue("eventValue(" + k + ") of " + k, NONE, () -> x.eventValue(behind));
            x.extend(1, EDGE_LONGS[k % EDGE_LONGS.length] ^ k);
            CHECKS.due("eventValue(" + k + ")", x.eventValue(k), EDGE_LONGS[k % EDGE_LONGS.length] ^ k);
        }
        for (int k : noEvents()) {
            refused("eventValue(" + k + ")", LIVES, NONE, y -> y.eventValue(k));
        }
    }

    // Promise 14: "The value of event k in the log is combined with x by ^ (registers stay)."

    private static void tamperCombines() {
        for (long with : EDGE_LONGS) {
            MeasuredStages x = new MeasuredStages();
            for (int k = 0; k < 32; k++) {
                x.extend(k % 6, ~k);
            }
            long held = x.register(1);
            for (int k = 0; k < 32; k += 31) {
                x.tamper(k, with);
                CHECKS.due("tamper(" + k + ", " + with + ")", x.eventValue(k), ~k ^ with);
                CHECKS.due("tamper(" + k + ", " + with + "): register", x.eventRegister(k), k % 6);
                CHECKS.due("tamper(" + k + ", " + with + "): replays", x.replays(), with == 0);
                x.tamper(k, with);
                CHECKS.due("tamper(" + k + ", " + with + ") twice", x.eventValue(k), ~k);
                CHECKS.due("tamper(" + k + ", " + with + ") twice: replays", x.replays(), true);
            }
            CHECKS.due("tamper: register 1", x.register(1), held);
            CHECKS.due("tamper: the event beside", x.eventValue(1), ~1);
        }
    }

    // Promise 14: "Throws NoSuchElementException when there is none."

    private static void tamperOutsideTheLog() {
        MeasuredStages x = new MeasuredStages();
        for (int k = 0; k < 32; k++) {
            int behind = k;
            CHECKS.throwsDue("tamper(" + k + ") of " + k, NONE, () -> x.tamper(behind, 1));
            x.extend(1, k);
        }
        CHECKS.due("tamper behind the log leaves it", x.replays(), true);
        for (int k : noEvents()) {
            refused("tamper(" + k + ")", LIVES, NONE, y -> y.tamper(k, 1));
        }
    }

    // Promise 15: "Whether registers that begin with 0"

    private static void replaysAnEmptyLog() {
        MeasuredStages x = new MeasuredStages();
        CHECKS.due("replays an empty log", x.replays(), true);
        x.extend(0, 7);
        CHECKS.due("replays one event", x.replays(), true);
        CHECKS.due("replays again from 0", x.replays(), true);
        x.tamper(0, 1);
        CHECKS.due("replays a changed event", x.replays(), false);
        x.tamper(0, 1);
        CHECKS.due("replays from 0 after it failed", x.replays(), true);
    }

    // Promise 15: "and are extended (without noting it) by the events of the log, in their order"

    private static void replaysInOrder() {
        MeasuredStages x = new MeasuredStages();
        x.extend(2, 11);
        x.extend(2, 22);
        x.tamper(0, 11 ^ 22);
        x.tamper(1, 11 ^ 22);
        CHECKS.due("two events in the other order: replays", x.replays(), false);
        CHECKS.due("replays notes nothing", x.events(), 2);
        CHECKS.due("replays leaves the register", x.register(2), Checks.h(Checks.h(0, 11), 22));
        x.extend(3, 33);
        x.extend(4, 44);
        x.tamper(0, 11 ^ 22);
        x.tamper(1, 11 ^ 22);
        CHECKS.due("in their order again: replays", x.replays(), true);
        x.tamper(2, 33 ^ 44);
        x.tamper(3, 33 ^ 44);
        CHECKS.due("two registers' events exchanged: replays", x.replays(), false);
    }

    // Promise 15: "come to what the registers are."

    private static void replaysByWhatItComesTo() {
        MeasuredStages x = new MeasuredStages();
        x.extend(2, 11);
        x.extend(2, 22);
        long end = x.register(2);
        x.tamper(0, 11 ^ 99);
        CHECKS.due("the first changed: replays", x.replays(), false);
        x.tamper(1, 22 ^ Checks.valueFor(Checks.h(0, 99), end));
        CHECKS.due("the second changed so that it comes to the same: replays", x.replays(), true);
        x.extend(2, 5);
        CHECKS.due("and extended: replays", x.replays(), true);
    }

    private static void replaysEveryRegister() {
        MeasuredStages x = new MeasuredStages();
        for (int r = 0; r <= 5; r++) {
            x.extend(r, r);
        }
        for (int r = 0; r <= 5; r++) {
            x.tamper(r, Long.MIN_VALUE);
            CHECKS.due("register " + r + " alone is another: replays", x.replays(), false);
            x.tamper(r, Long.MIN_VALUE);
            CHECKS.due("register " + r + " is the same: replays", x.replays(), true);
        }
    }

    private static void replaysAFullLog() {
        MeasuredStages x = new MeasuredStages();
        for (int k = 0; k < 32; k++) {
            x.extend(k % 6, k);
        }
        CHECKS.due("a full log: replays", x.replays(), true);
        x.tamper(31, 1);
        CHECKS.due("a full log, its last changed: replays", x.replays(), false);
    }

    // Promise 16: "Throws IllegalArgumentException when the mask is not 1 .. 63"

    private static void sealBelow1OrAbove63() {
        MeasuredStages x = new MeasuredStages();
        CHECKS.due("seal to 1", x.seal(1, 5), 0);
        CHECKS.due("seal to 63", x.seal(63, 6), 1);
        CHECKS.due("sealed to 1", x.unseal(0), 5);
        CHECKS.due("sealed to 63", x.unseal(1), 6);
        for (int mask : NO_MASKS) {
            refused("seal(" + mask + ")", LIVES, ARGUMENT, y -> y.seal(mask, 1));
        }
    }

    // Promise 16: "IllegalStateException when no blob is free."

    private static void sealWhenNoneIsFree() {
        for (int mask = 1; mask <= 63; mask += 62) {
            int last = mask;
            refused("seal(" + mask + ") when none is free", List.of(Twins::full), STATE, x -> x.seal(last, 1));
        }
    }

    // Promise 17: "Throws NoSuchElementException when there is no such blob"

    private static void unsealOfNoSuchBlob() {
        for (int k : NO_BLOBS) {
            refused("unseal(" + k + ")", LIVES, NONE, x -> x.unseal(k));
        }
    }

    // Promise 17: "or it is free"

    private static void unsealOfAFreeBlob() {
        for (int k = 0; k <= 7; k++) {
            int blob = k;
            refused("unseal(" + k + ") of a new one", NEW_ONES, NONE, x -> x.unseal(blob));
            MeasuredStages x = new MeasuredStages();
            for (int i = 0; i <= 7; i++) {
                x.seal(1, i);
            }
            CHECKS.due("unseal(" + k + ")", x.unseal(k), k);
            x.discard(k);
            CHECKS.throwsDue("unseal(" + k + ") when it was discarded", NONE, () -> x.unseal(blob));
            x.extend(0, 1);
            CHECKS.throwsDue("unseal(" + k + ") when it was not open, too", NONE, () -> x.unseal(blob));
            CHECKS.throwsDue("unseal of the one beside", STATE, () -> x.unseal(blob ^ 1));
        }
    }

    // Promise 17: "IllegalStateException when it is not open."

    private static void unsealOfOneThatIsNotOpen() {
        for (int k = 0; k <= 7; k++) {
            int blob = k;
            Consumer<MeasuredStages> closed = x -> {
                for (int i = 0; i <= 7; i++) {
                    x.seal(1 + i, i);
                }
                x.boot(0);
                x.extend(1, 1);
                x.extend(2, 1);
                x.extend(3, 1);
            };
            refused("unseal(" + k + ") of one that is not open", List.of(closed), STATE, x -> x.unseal(blob));
        }
    }

    // Promise 18: "Blob k becomes free." (Nothing is said of its being open.)

    private static void discardOfOneThatIsNotOpen() {
        for (int k = 0; k <= 7; k++) {
            MeasuredStages x = new MeasuredStages();
            for (int i = 0; i <= 7; i++) {
                x.seal(63, i);
            }
            x.extend(0, 1);
            x.discard(k);
            CHECKS.due("the place of a discarded one", x.seal(63, 40), k);
            CHECKS.due("what is there now", x.unseal(k), 40);
            int beside = k ^ 1;
            CHECKS.throwsDue("the one beside is as it was", STATE, () -> x.unseal(beside));
        }
    }

    // Promise 18: "Throws NoSuchElementException when there is no such blob"

    private static void discardOfNoSuchBlob() {
        for (int k : NO_BLOBS) {
            refused("discard(" + k + ")", LIVES, NONE, x -> x.discard(k));
        }
    }

    // Promise 18: "or it is free already."

    private static void discardOfAFreeBlob() {
        for (int k = 0; k <= 7; k++) {
            int blob = k;
            refused("discard(" + k + ") of a new one", NEW_ONES, NONE, x -> x.discard(blob));
            Consumer<MeasuredStages> discarded = x -> {
                Twins.full(x);
                x.discard(blob);
            };
            refused("discard(" + k + ") twice", List.of(discarded), NONE, x -> x.discard(blob));
        }
    }

    // Promise 19: "H(H(key, nonce), the policy of the mask)."

    private static void quoteOfEveryKeyAndNonce() {
        MeasuredStages x = new MeasuredStages();
        long lone = Checks.h(Checks.h(9, 32), 0);
        for (long key : EDGE_LONGS) {
            for (long nonce : EDGE_LONGS) {
                CHECKS.due("quote(" + key + ", " + nonce + ", 32)", x.quote(key, nonce, 32),
                    Checks.h(Checks.h(key, nonce), lone));
            }
        }
        hold(x, 5, -1);
        CHECKS.due("quote of a changed register", x.quote(1, 2, 32),
            Checks.h(Checks.h(1, 2), Checks.h(Checks.h(9, 32), -1)));
        x.tamper(0, 1);
        CHECKS.due("quote of a changed log", x.quote(1, 2, 32),
            Checks.h(Checks.h(1, 2), Checks.h(Checks.h(9, 32), -1)));
    }

    // Promise 19: "Throws IllegalArgumentException when the mask is not 1 .. 63."

    private static void quoteBelow1OrAbove63() {
        MeasuredStages x = new MeasuredStages();
        long all = Checks.h(9, 63);
        for (int r = 0; r <= 5; r++) {
            all = Checks.h(all, 0);
        }
        CHECKS.due("quote to 63", x.quote(3, 4, 63), Checks.h(Checks.h(3, 4), all));
        CHECKS.due("quote to 1", x.quote(3, 4, 1), Checks.h(Checks.h(3, 4), Checks.h(Checks.h(9, 1), 0)));
        for (int mask : NO_MASKS) {
            refused("quote(" + mask + ")", LIVES, ARGUMENT, y -> y.quote(1, 2, mask));
        }
    }

    private static int[] noEvents() {
        return new int[] {-1, 32, 33, Integer.MIN_VALUE, Integer.MAX_VALUE};
    }

    private static void refused(String what, List<Consumer<MeasuredStages>> lives,
            Class<? extends RuntimeException> thrown, Consumer<MeasuredStages> call) {
        for (Consumer<MeasuredStages> life : lives) {
            Twins.changesNothing(CHECKS, what, life, thrown, call);
        }
    }
}
