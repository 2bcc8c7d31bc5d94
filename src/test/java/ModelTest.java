import java.util.Random;
import java.util.function.LongSupplier;

/** Long runs of drawn calls, each answer compared with the plain model's. */
public final class ModelTest {
    private static final int RUNS = 4000;
    private static final int CALLS = 512;
    private static final int[] ENDS = {-1, Integer.MIN_VALUE, Integer.MAX_VALUE, 6, 8, 32, 64, 0x10001};

    private final Checks checks = new Checks();
    private final int[] faultsSeen = new int[9];
    private final Random random = new Random(20261115);
    private MeasuredStages program;
    private PlainModel model;
    private String place;

    public static void main(String[] args) {
        ModelTest test = new ModelTest();
        for (int run = 0; run < RUNS; run++) {
            test.run(run);
        }
        System.out.println("boots by fault: " + java.util.Arrays.toString(test.faultsSeen));
        for (int fault = 0; fault < test.faultsSeen.length; fault++) {
            test.checks.due("boots with fault " + fault + " were drawn often", test.faultsSeen[fault] >= 500, true);
        }
        test.checks.finish("ModelTest");
    }

    private void run(int run) {
        program = new MeasuredStages();
        model = new PlainModel();
        int calls = 1 + random.nextInt(CALLS);
        int style = random.nextInt(4);
        for (int call = 0; call < calls; call++) {
            place = "run " + run + ", call " + call + ": ";
            if (random.nextInt(3) == 0) {
                act(style);
            } else {
                look();
            }
        }
    }

    private void act(int style) {
        switch (random.nextInt(10)) {
            case 0, 1, 2 -> setImage(style);
            case 3, 4, 5 -> bootOne();
            case 6 -> approveOne();
            case 7 -> extendOne();
            case 8 -> sealOne();
            default -> tamperOrDiscard();
        }
    }

    private void setImage(int style) {
        int n = index(8);
        long code = drawImage(n, style);
        same("image(" + n + ", " + code + ")",
            () -> { program.image(n, code); return 0; }, () -> { model.image(n, code); return 0; });
    }

    private void bootOne() {
        int n = index(8);
        same("boot(" + n + ")", () -> program.boot(n), () -> model.boot(n));
        faultsSeen[model.fault()]++;
    }

    private void approveOne() {
        int n = index(8);
        same("approve(" + n + ")",
            () -> { program.approve(n); return 0; }, () -> { model.approve(n); return 0; });
    }

    private void extendOne() {
        int r = index(6);
        long v = value();
        same("extend(" + r + ", " + v + ")",
            () -> { program.extend(r, v); return 0; }, () -> { model.extend(r, v); return 0; });
    }

    private void sealOne() {
        int mask = random.nextInt(8) == 0 ? index(64) : 1 + random.nextInt(63);
        long secret = value();
        same("seal(" + mask + ", " + secret + ")",
            () -> program.seal(mask, secret), () -> model.seal(mask, secret));
    }

    private void tamperOrDiscard() {
        if (random.nextBoolean()) {
            int k = index(33);
            long x = value();
            same("tamper(" + k + ", " + x + ")",
                () -> { program.tamper(k, x); return 0; }, () -> { model.tamper(k, x); return 0; });
        } else {
            int k = index(8);
            same("discard(" + k + ")",
                () -> { program.discard(k); return 0; }, () -> { model.discard(k); return 0; });
        }
    }

    private void look() {
        int r = index(6);
        int k = index(Math.max(1, model.events() + 1));
        int blob = index(8);
        switch (random.nextInt(11)) {
            case 0 -> same("fault()", () -> program.fault(), () -> model.fault());
            case 1 -> same("launched()", () -> program.launched(), () -> model.launched());
            case 2 -> same("steps()", () -> program.steps(), () -> model.steps());
            case 3 -> same("acc()", () -> program.acc(), () -> model.acc());
            case 4 -> same("register(" + r + ")", () -> program.register(r), () -> model.register(r));
            case 5 -> same("events()", () -> program.events(), () -> model.events());
            case 6 -> same("eventRegister(" + k + ")",
                () -> program.eventRegister(k), () -> model.eventRegister(k));
            case 7 -> same("eventValue(" + k + ")", () -> program.eventValue(k), () -> model.eventValue(k));
            case 8 -> same("replays()", () -> program.replays() ? 1 : 0, () -> model.replays() ? 1 : 0);
            case 9 -> same("unseal(" + blob + ")", () -> program.unseal(blob), () -> model.unseal(blob));
            default -> quoteOne();
        }
    }

    private void quoteOne() {
        int mask = index(64);
        long key = value();
        long nonce = value();
        same("quote(" + key + ", " + nonce + ", " + mask + ")",
            () -> program.quote(key, nonce, mask), () -> model.quote(key, nonce, mask));
    }

    private int index(int bound) {
        return random.nextInt(12) == 0 ? ENDS[random.nextInt(ENDS.length)] : random.nextInt(bound);
    }

    private long value() {
        return switch (random.nextInt(4)) {
            case 0 -> 0;
            case 1 -> random.nextInt(16);
            case 2 -> random.nextBoolean() ? Long.MIN_VALUE : Long.MAX_VALUE;
            default -> random.nextLong();
        };
    }

    // Drawn digits alone would nearly always meet an early fault, so the styles choose likely codes.
    private long drawImage(int n, int style) {
        if (random.nextInt(20) == 0) {
            return random.nextLong();
        }
        long image = 0;
        int at = 0;
        while (at < 16) {
            int code = drawCode(n, style);
            image |= (long) code << 4 * at++;
            for (int more = code == 0 ? 0 : code == 2 ? 2 : 1; more > 0 && at < 16; more--) {
                image |= (long) drawOperand(n, code, style) << 4 * at++;
            }
        }
        return image;
    }

    private int drawCode(int n, int style) {
        if (random.nextInt(100) == 0) {
            return random.nextInt(16);
        }
        String likely = switch (style) {
            case 0 -> n < 3 ? "1111111155" : "5555555555";
            case 1 -> n < 3 ? "1111122667" : "2266666555";
            case 2 -> "0123456788";
            default -> "1134455778";
        };
        return likely.charAt(random.nextInt(10)) - '0';
    }

    // In the first styles an image launches later ones alone: else DEEP would come before TIRED and FULL.
    private int drawOperand(int n, int code, int style) {
        return code == 1 && style < 2 ? Math.min(n + 1 + random.nextInt(3), 7) : random.nextInt(16);
    }

    private void same(String call, LongSupplier got, LongSupplier want) {
        checks.dueText(place + call, outcome(got), outcome(want));
    }

    private static String outcome(LongSupplier call) {
        try {
            return Long.toString(call.getAsLong());
        } catch (RuntimeException thrown) {
            return "throws." + thrown.getClass().getSimpleName();
        }
    }
}
