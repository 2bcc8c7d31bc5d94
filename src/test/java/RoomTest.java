import com.sun.management.ThreadMXBean;
import java.lang.management.ManagementFactory;
import java.util.function.Consumer;

/** A call that does not throw makes no object, and a new machine is small. */
public final class RoomTest {
    private static final int CALLS = 200;
    // The least object of Java has more bytes than these.
    private static final long BYTES = 8;
    // Some 400 fields and elements: the room has 7.3 million for all the machines of a run.
    private static final long BYTES_OF_A_MACHINE = 3200;

    private static final ThreadMXBean THREADS = (ThreadMXBean) ManagementFactory.getThreadMXBean();
    private static final Checks CHECKS = new Checks();

    // Answers are kept where anyone could read them, so that no call may be left out as useless.
    static long kept;
    static MeasuredStages keptMachine;

    public static void main(String[] args) {
        makesNothing("image", x -> x.image(7, 1));
        makesNothing("approve", x -> x.approve(7));
        makesNothing("boot", x -> kept += x.boot(0));
        makesNothing("fault", x -> kept += x.fault());
        makesNothing("launched", x -> kept += x.launched());
        makesNothing("steps", x -> kept += x.steps());
        makesNothing("acc", x -> kept += x.acc());
        makesNothing("register", x -> kept += x.register(5));
        makesNothing("events", x -> kept += x.events());
        makesNothing("eventRegister", x -> kept += x.eventRegister(1));
        makesNothing("eventValue", x -> kept += x.eventValue(1));
        makesNothing("tamper", x -> x.tamper(1, 1));
        makesNothing("replays", x -> kept += x.replays() ? 1 : 0);
        makesNothing("unseal", x -> kept += x.unseal(1));
        makesNothing("quote", x -> kept += x.quote(1, 2, 63));
        makesNothing("seal and discard", RoomTest::sealAndDiscard);
        makesNothing("boot that seals, and discard", RoomTest::bootThatSealsAndDiscard);
        makesNothing("boot and extend", RoomTest::bootAndExtend);
        aMachineIsSmall();
        CHECKS.finish("RoomTest");
    }

    /** A machine whose boots of images 0 and 3 have every code between them, and which has an open blob 1. */
    private static MeasuredStages machine() {
        MeasuredStages x = new MeasuredStages();
        x.image(0, Checks.code(1, 1, 4, 0, 5, 3, 7, 2, 6, 3, 2, 4, 9, 3, 1));
        x.image(1, Checks.code(1, 2, 5, 3));
        x.image(3, Checks.code(7, 1, 9, 8, 0));
        x.approve(1);
        x.seal(32, 77);
        x.boot(0);
        x.seal(63, 78);
        return x;
    }

    private static void sealAndDiscard(MeasuredStages x) {
        x.discard(x.seal(63, 5));
    }

    private static void bootThatSealsAndDiscard(MeasuredStages x) {
        x.boot(3);
        x.discard(2);
    }

    private static void bootAndExtend(MeasuredStages x) {
        x.boot(0);
        x.extend(5, 6);
    }

    // The first round loads and links what the call needs, which makes objects of Java's own.
    private static void makesNothing(String what, Consumer<MeasuredStages> call) {
        bytesOf(call);
        long bytes = bytesOf(call);
        CHECKS.due(what + " makes objects, " + bytes + " bytes", bytes >= CALLS * BYTES, false);
    }

    private static long bytesOf(Consumer<MeasuredStages> call) {
        MeasuredStages x = machine();
        long before = THREADS.getCurrentThreadAllocatedBytes();
        for (int i = 0; i < CALLS; i++) {
            call.accept(x);
        }
        return THREADS.getCurrentThreadAllocatedBytes() - before;
    }

    private static void aMachineIsSmall() {
        long before = THREADS.getCurrentThreadAllocatedBytes();
        for (int i = 0; i < CALLS; i++) {
            keptMachine = new MeasuredStages();
        }
        long bytes = (THREADS.getCurrentThreadAllocatedBytes() - before) / CALLS;
        CHECKS.due("a machine has " + bytes + " bytes, too many", bytes > BYTES_OF_A_MACHINE, false);
    }
}
