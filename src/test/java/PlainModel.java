import java.util.ArrayList;
import java.util.List;
import java.util.NoSuchElementException;
import java.util.TreeMap;

/** The document a second time, written for plainness: it recurses, makes objects and throws inside. */
final class PlainModel {
    private record Event(int register, long value) { }

    private record Blob(int mask, long policy, long secret) { }

    private static final class Stopped extends RuntimeException {
        private static final long serialVersionUID = 1;
        final int fault;

        Stopped(int fault) {
            this.fault = fault;
        }
    }

    private long[] registers = new long[6];
    private List<Event> log = new ArrayList<>();
    private final long[] images = new long[8];
    private final TreeMap<Integer, Long> approvals = new TreeMap<>();
    private final TreeMap<Integer, Blob> blobs = new TreeMap<>();
    private long acc;
    private int launched;
    private int steps;
    private int fault;

    static long h(long a, long b) {
        long x = (a ^ 1442695040888963407L) * 6364136223846793005L + b;
        x ^= x >>> 32;
        x *= 2862933555777941757L;
        return x ^ x >>> 29;
    }

    void image(int n, long code) {
        checkImage(n);
        images[n] = code;
    }

    void approve(int n) {
        checkImage(n);
        approvals.put(n, h(5, images[n]));
    }

    int boot(int n) {
        checkImage(n);
        registers = new long[6];
        log = new ArrayList<>();
        acc = 0;
        launched = 0;
        steps = 0;
        fault = 0;
        try {
            launch(n, 0);
        } catch (Stopped stopped) {
            fault = stopped.fault;
            throw new IllegalStateException();
        }
        return launched;
    }

    int fault() {
        return fault;
    }

    int launched() {
        return launched;
    }

    int steps() {
        return steps;
    }

    long acc() {
        return acc;
    }

    long register(int r) {
        checkRegister(r);
        return registers[r];
    }

    void extend(int r, long v) {
        checkRegister(r);
        if (log.size() == 32) {
            throw new IllegalStateException();
        }
        measure(r, v);
    }

    int events() {
        return log.size();
    }

    int eventRegister(int k) {
        checkEvent(k);
        return log.get(k).register();
    }

    long eventValue(int k) {
        checkEvent(k);
        return log.get(k).value();
    }

    void tamper(int k, long x) {
        checkEvent(k);
        log.set(k, new Event(log.get(k).register(), log.get(k).value() ^ x));
    }

    boolean replays() {
        long[] again = new long[6];
        for (Event event : log) {
            again[event.register()] = h(again[event.register()], event.value());
        }
        return java.util.Arrays.equals(again, registers);
    }

    int seal(int mask, long secret) {
        checkMask(mask);
        int k = leastFree();
        if (k == 8) {
            throw new IllegalStateException();
        }
        blobs.put(k, new Blob(mask, policy(mask), secret));
        return k;
    }

    long unseal(int k) {
        checkBlob(k);
        if (!open(k)) {
            throw new IllegalStateException();
        }
        return blobs.get(k).secret();
    }

    void discard(int k) {
        checkBlob(k);
        blobs.remove(k);
    }

    long quote(long key, long nonce, int mask) {
        checkMask(mask);
        return h(h(key, nonce), policy(mask));
    }

    private void launch(int n, int d) {
        measure(d, h(5, images[n]));
        launched++;
        run(images[n], d);
    }

    private void run(long code, int d) {
        String image = new StringBuilder(String.format("%016x", code)).reverse().toString();
        int at = 0;
        while (true) {
            if (steps == 100) {
                throw new Stopped(3);
            }
            int what = digit(image, at);
            int x = digit(image, at + 1);
            int y = digit(image, at + 2);
            at += what == 0 ? 1 : what == 2 ? 3 : 2;
            if (what == 0) {
                steps++;
                return;
            } else if (what == 1) {
                if (d == 5) {
                    throw new Stopped(2);
                }
                measure(d + 1, h(5, images[x & 7]));
                steps++;
                launched++;
                run(images[x & 7], d + 1);
                continue;
            } else if (what == 2) {
                measure(x % 6, y);
            } else if (what == 3) {
                Long digest = approvals.get(x & 7);
                if (digest == null || digest != h(5, images[x & 7])) {
                    throw new Stopped(5);
                }
            } else if (what == 4) {
                if (!blobs.containsKey(x & 7)) {
                    throw new Stopped(6);
                }
                if (!open(x & 7)) {
                    throw new Stopped(7);
                }
                acc = blobs.get(x & 7).secret();
            } else if (what == 5) {
                acc = h(acc, x);
            } else if (what == 6) {
                measure(x % 6, acc);
            } else if (what == 7) {
                at += acc == 0 ? x : 0;
            } else if (what == 8) {
                if (leastFree() == 8) {
                    throw new Stopped(8);
                }
                seal(x + 1, acc);
            } else {
                throw new Stopped(1);
            }
            steps++;
        }
    }

    private static int digit(String image, int i) {
        return i < 16 ? Character.digit(image.charAt(i), 16) : 0;
    }

    private void measure(int r, long v) {
        if (log.size() == 32) {
            throw new Stopped(4);
        }
        registers[r] = h(registers[r], v);
        log.add(new Event(r, v));
    }

    private long policy(int mask) {
        long p = h(9, mask);
        for (int r = 0; r < 6; r++) {
            p = (mask >> r & 1) == 1 ? h(p, registers[r]) : p;
        }
        return p;
    }

    private boolean open(int k) {
        return blobs.get(k).policy() == policy(blobs.get(k).mask());
    }

    private int leastFree() {
        int k = 0;
        while (blobs.containsKey(k)) {
            k++;
        }
        return k;
    }

    private static void checkImage(int n) {
        if (n < 0 || n > 7) {
            throw new IllegalArgumentException();
        }
    }

    private static void checkMask(int mask) {
        if (mask < 1 || mask > 63) {
            throw new IllegalArgumentException();
        }
    }

    private static void checkRegister(int r) {
        if (r < 0 || r > 5) {
            throw new IndexOutOfBoundsException();
        }
    }

    private void checkEvent(int k) {
        if (k < 0 || k >= log.size()) {
            throw new NoSuchElementException();
        }
    }

    private void checkBlob(int k) {
        if (!blobs.containsKey(k)) {
            throw new NoSuchElementException();
        }
    }
}
