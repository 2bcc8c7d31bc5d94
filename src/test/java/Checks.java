import java.math.BigInteger;

/** Counts and prints the answers that are not as due, and holds what several tests need. */
final class Checks {
    private int done;
    private int wrong;

    void due(String what, long got, long want) {
        done++;
        if (got != want) {
            report(what + " answered " + got + ", due is " + want);
        }
    }

    void due(String what, boolean got, boolean want) {
        done++;
        if (got != want) {
            report(what + " answered " + got + ", due is " + want);
        }
    }

    void dueText(String what, String got, String want) {
        done++;
        if (!got.equals(want)) {
            report(what + " is\n  " + got + "\ndue is\n  " + want);
        }
    }

    void throwsDue(String what, Class<? extends RuntimeException> want, Runnable call) {
        done++;
        String got = "nothing";
        try {
            call.run();
        } catch (RuntimeException thrown) {
            got = thrown.getClass().getName();
        }
        if (!got.equals(want.getName())) {
            report(what + " throws " + got + ", due is " + want.getName());
        }
    }

    void finish(String name) {
        System.out.println(name + ": " + done + " checks, " + wrong + " wrong");
        if (wrong != 0 || done == 0) {
            System.exit(1);
        }
    }

    private void report(String line) {
        wrong++;
        // A broken program may be wrong a million times; the first lines tell enough.
        if (wrong <= 40) {
            System.out.println(line);
        }
    }

    /** An image of these digits, digit 0 first. */
    static long code(int... digits) {
        if (digits.length > 16) {
            throw new IllegalArgumentException("an image has 16 digits");
        }
        long image = 0;
        for (int i = 0; i < digits.length; i++) {
            image |= (long) digits[i] << 4 * i;
        }
        return image;
    }

    /** H as the document has it, over whole numbers, so that it shares no line with the program. */
    static long h(long a, long b) {
        BigInteger x = unsigned(a).xor(new BigInteger("1442695040888963407"));
        x = wrap(x.multiply(new BigInteger("6364136223846793005")).add(unsigned(b)));
        x = x.xor(x.shiftRight(32));
        x = wrap(x.multiply(new BigInteger("2862933555777941757")));
        return x.xor(x.shiftRight(29)).longValue();
    }

    static long digest(long image) {
        return h(5, image);
    }

    /** The v with H(a, v) = result: for each a, H takes every long to another one. */
    static long valueFor(long a, long result) {
        long x = result;
        for (int i = 0; i < 3; i++) {
            x = result ^ (x >>> 29);
        }
        x *= new BigInteger("2862933555777941757").modInverse(BigInteger.ONE.shiftLeft(64)).longValue();
        x = x ^ (x >>> 32);
        return x - (a ^ 1442695040888963407L) * 6364136223846793005L;
    }

    private static BigInteger unsigned(long a) {
        return wrap(BigInteger.valueOf(a));
    }

    private static BigInteger wrap(BigInteger x) {
        return x.mod(BigInteger.ONE.shiftLeft(64));
    }
}
