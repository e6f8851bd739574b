import java.math.BigInteger;

/** The document's numbers, reckoned without the wrap-around of long, and helpers to fill files. */
final class Told {
    static final int BAD = RollingSync.BAD, NO = RollingSync.NO, FULL = RollingSync.FULL;
    static final long EMPTY = -3750763034362895579L;
    /** Kinds of what is sent till one file alone is TO DO: seven times ASK and NODE. */
    static final String ASKED = "01010101010101";
    static final int ASKED_STEPS = ASKED.length();

    private static final BigInteger FACTOR = BigInteger.valueOf(1099511628211L);
    private static final BigInteger MODULUS = BigInteger.ONE.shiftLeft(64);

    private Told() {
    }

    static long digest(int... bytes) {
        BigInteger h = BigInteger.valueOf(EMPTY).mod(MODULUS);
        for (int b : bytes) {
            h = h.xor(BigInteger.valueOf(b)).multiply(FACTOR).mod(MODULUS);
        }
        return h.longValue();
    }

    static long strong(int k, int... bytes) {
        BigInteger lowest = BigInteger.valueOf(digest(bytes)).mod(BigInteger.ONE.shiftLeft(8 * k));
        return lowest.longValue();
    }

    static long weak(int... bytes) {
        long sum = 0;
        long weighted = 0;
        for (int i = 0; i < bytes.length; i++) {
            sum += bytes[i];
            weighted += (long) (bytes.length - i) * bytes[i];
        }
        return sum % 65536 + 65536 * (weighted % 65536);
    }

    /** DIGEST of sixteen bytes: two numbers, the highest byte first. */
    static long joined(long left, long right) {
        int[] bytes = new int[16];
        for (int i = 0; i < 8; i++) {
            bytes[i] = (int) (left >> (56 - 8 * i) & 255);
            bytes[8 + i] = (int) (right >> (56 - 8 * i) & 255);
        }
        return digest(bytes);
    }

    /** Puts bytes behind a file, eight with each call. */
    static void put(RollingSync x, int end, int file, int... bytes) {
        int from = Math.max(0, x.size(end, file));
        for (int i = 0; i < bytes.length || i == 0; i += 8) {
            int n = Math.min(8, bytes.length - i);
            long number = 0;
            for (int j = 0; j < n; j++) {
                number = number << 8 | bytes[i + j];
            }
            x.write(end, file, from + i, number, n);
        }
    }

    static int[] bytes(String text) {
        return text.chars().toArray();
    }

    /** n bytes, each by one more than the one before it. */
    static int[] count(int first, int n) {
        int[] bytes = new int[n];
        for (int i = 0; i < n; i++) {
            bytes[i] = (first + i) & 255;
        }
        return bytes;
    }

    /** Steps, one by one, till the RUN goes no more: the kind of the MESSAGE of each. */
    static String kinds(RollingSync x) {
        StringBuilder kinds = new StringBuilder();
        for (int i = 0; i < 200 && x.step(1) == 1; i++) {
            kinds.append(x.state(14));
        }
        return kinds.toString();
    }

    static boolean alike(RollingSync x, int file) {
        return x.node(0, 8 + file) == x.node(1, 8 + file) && x.size(0, file) == x.size(1, file);
    }

    static boolean has(RollingSync x, int end, int file, int... bytes) {
        if (x.size(end, file) != bytes.length) {
            return false;
        }
        for (int i = 0; i < bytes.length; i++) {
            if (x.at(end, file, i) != bytes[i]) {
                return false;
            }
        }
        return true;
    }
}
