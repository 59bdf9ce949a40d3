import java.math.BigInteger;

/** The document's hash, written anew, and its inverse: a link can be found that gives any hash. */
final class Hashes {
    private static final long START = 6148914691236517205L;
    private static final long FACTOR = 1099511628211L;
    private static final long INVERSE = BigInteger.valueOf(FACTOR)
        .modInverse(BigInteger.ONE.shiftLeft(64)).longValue();

    private Hashes() {
    }

    static long of(int author, int kind, int key, int value, long... links) {
        long h = START;
        for (long x : new long[] {author, kind, key, value, links.length}) {
            h = takeIn(h, x);
        }
        for (long link : links) {
            h = takeIn(h, link);
        }
        return h;
    }

    /** The only link that gives an operation with these numbers and one link the hash that is wanted. */
    static long linkFor(long wanted, int author, int kind, int key, int value) {
        long h = START;
        for (long x : new long[] {author, kind, key, value, 1}) {
            h = takeIn(h, x);
        }
        long product = wanted ^ wanted >>> 29 ^ wanted >>> 58;
        return product * INVERSE ^ h;
    }

    private static long takeIn(long h, long x) {
        long product = (h ^ x) * FACTOR;
        return product ^ product >>> 29;
    }
}
