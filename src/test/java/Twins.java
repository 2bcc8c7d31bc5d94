import java.util.ArrayList;
import java.util.List;
import java.util.function.Consumer;
import java.util.function.LongSupplier;

/**
 * Whether a call leaves a machine as it was. Two machines are made alike, one of them gets the call,
 * and then both are asked for all that the face can bring to light, in far fewer than 512 calls.
 */
final class Twins {
    private static final long[] CODES = {
        Checks.code(5, 3, 2, 4, 9, 1, 1, 15), Checks.code(3, 2, 6, 5), Checks.code(5, 2), -1,
        Checks.code(4, 0, 6, 2), Checks.code(1, 6), Checks.code(2, 10, 15, 1, 7), Long.MIN_VALUE
    };

    private Twins() {
    }

    static void changesNothing(Checks checks, String what, Consumer<MeasuredStages> life,
            Class<? extends RuntimeException> thrown, Consumer<MeasuredStages> call) {
        MeasuredStages called = new MeasuredStages();
        MeasuredStages spared = new MeasuredStages();
        life.accept(called);
        life.accept(spared);
        checks.throwsDue(what, thrown, () -> call.accept(called));
        List<String> got = all(called);
        List<String> want = all(spared);
        checks.due(what + ": as many answers", got.size(), want.size());
        for (int i = 0; i < want.size(); i++) {
            checks.dueText(what + " changes nothing", got.get(i), want.get(i));
        }
    }

    /** A machine that a fault stopped, with some events since, one of them changed, and some blobs. */
    static void withRoom(MeasuredStages x) {
        for (int n = 0; n < CODES.length; n++) {
            x.image(n, CODES[n]);
        }
        x.approve(2);
        x.approve(0);
        x.image(2, Checks.code(5, 2, 5, 2));
        x.approve(4);
        for (int k = 0; k < 5; k++) {
            x.seal(32 >> k, 700 + k);
        }
        x.discard(3);
        quietBoot(x, 0);
        x.seal(63, -5);
        x.discard(1);
        x.extend(5, 55);
        x.extend(0, -1);
        x.tamper(3, 6);
    }

    /** The same, but with a full log and no free blob. */
    static void full(MeasuredStages x) {
        withRoom(x);
        for (int k = x.events(); k < 32; k++) {
            x.extend(k % 6, k);
        }
        for (int k = 0; k < 4; k++) {
            x.seal(9 + k, k);
        }
    }

    private static List<String> all(MeasuredStages x) {
        List<String> seen = new ArrayList<>();
        addStanding(x, seen);
        addBlobs(x, seen);
        addImages(x, seen);
        addApprovals(x, seen);
        addPlaces(x, seen);
        return seen;
    }

    private static void addStanding(MeasuredStages x, List<String> seen) {
        add(seen, "fault", x::fault);
        add(seen, "launched", x::launched);
        add(seen, "steps", x::steps);
        add(seen, "acc", x::acc);
        add(seen, "events", x::events);
        add(seen, "replays", () -> x.replays() ? 1 : 0);
        for (int i = 0; i < 6; i++) {
            int r = i;
            add(seen, "register " + r, () -> x.register(r));
        }
        for (int i = 0; i < 33; i++) {
            int k = i;
            add(seen, "eventRegister " + k, () -> x.eventRegister(k));
            add(seen, "eventValue " + k, () -> x.eventValue(k));
        }
    }

    private static void addBlobs(MeasuredStages x, List<String> seen) {
        for (int i = 0; i < 8; i++) {
            int k = i;
            add(seen, "unseal " + k, () -> x.unseal(k));
        }
    }

    private static void addImages(MeasuredStages x, List<String> seen) {
        for (int i = 0; i < 8; i++) {
            int n = i;
            add(seen, "boot " + n, () -> x.boot(n));
            add(seen, "fault of boot " + n, x::fault);
            add(seen, "digest of image " + n, () -> x.eventValue(0));
            addBlobs(x, seen);
        }
    }

    private static void addApprovals(MeasuredStages x, List<String> seen) {
        for (int n = 1; n < 8; n++) {
            x.image(0, Checks.code(3, n));
            add(seen, "approval of " + n, () -> x.boot(0));
        }
        x.image(0, CODES[0]);
        x.image(1, Checks.code(3, 0));
        add(seen, "approval of 0", () -> x.boot(1));
    }

    private static void addPlaces(MeasuredStages x, List<String> seen) {
        for (int i = 0; i < 8; i++) {
            add(seen, "place of a new blob", () -> x.seal(1, 1));
        }
        addBlobs(x, seen);
    }

    private static void add(List<String> seen, String what, LongSupplier call) {
        String answer;
        try {
            answer = Long.toString(call.getAsLong());
        } catch (RuntimeException thrown) {
            answer = thrown.getClass().getName();
        }
        seen.add(what + ": " + answer);
    }

    private static void quietBoot(MeasuredStages x, int n) {
        try {
            x.boot(n);
        } catch (IllegalStateException stopped) {
            // fault() tells of it.
        }
    }
}
