import java.math.BigInteger;

/** The checksum of promise 25, by whole numbers without a limit, cut to 64 bits at the end. */
final class Sums {
    private Sums() {
    }

    static long digestOf(long... numbers) {
        return whole(numbers).longValue();
    }

    /** Whether the sum is beyond what 64 bits hold, so that it has to wrap around. */
    static boolean wraps(long... numbers) {
        return whole(numbers).bitLength() > 63;
    }

    private static BigInteger whole(long... numbers) {
        BigInteger d = BigInteger.valueOf(67);
        for (long number : numbers) {
            d = d.multiply(BigInteger.valueOf(31)).add(BigInteger.valueOf(number));
        }
        return d;
    }
}
