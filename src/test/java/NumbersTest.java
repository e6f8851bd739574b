import java.util.Arrays;

/** The first chapters of "Terms": ANSWERS, files, DIGEST, STRONG, WEAK and NODES at their edges. */
public final class NumbersTest {
    private static final int BAD = Told.BAD, NO = Told.NO, FULL = Told.FULL;
    private static final int ASKED_STEPS = Told.ASKED_STEPS;
    private static final Check check = new Check("NumbersTest");

    private NumbersTest() {
    }

    public static void main(String[] args) {
        badBeforeNo();
        badBeforeFull();
        noneAndEmptyAndWhole();
        digestOfNothing();
        digestOfKnownTexts();
        digestOfEachByte();
        digestOf500();
        strongByEachK();
        weakOfOneByte();
        weakCountsPlacesFromTheEnd();
        weakWrapsAround();
        weakHasNoSign();
        nodesOfNoneAndEmpty();
        nodesHaveTheHighestByteFirst();
        nodesFollowARun();
        check.finish();
    }

    private static void badBeforeNo() {
        check.sentence("of several the first one here: BAD before NO");
        RollingSync x = new RollingSync();
        check.due("step(0), no RUN", x.step(0), BAD);
        check.due("step(201), no RUN", x.step(201), BAD);
        check.due("size of a file that is none, no such end", x.size(2, 0), BAD);
        x.begin(0, 4, 1, 0);
        check.due("source 2, one GOES", x.begin(2, 4, 1, 0), BAD);
        check.due("block 65, one GOES", x.begin(0, 65, 1, 0), BAD);
        check.due("k 9, one GOES", x.begin(0, 4, 9, 0), BAD);
        check.due("rule 3, one GOES", x.begin(0, 4, 1, 3), BAD);
        check.due("nothing wrong, one GOES", x.begin(0, 4, 1, 2), NO);
        x.cut();
        check.due("step(0), CUT", x.step(0), BAD);
        check.due("step(1), CUT", x.step(1), NO);
    }

    private static void badBeforeFull() {
        check.sentence("of several the first one here: BAD before FULL");
        RollingSync x = new RollingSync();
        x.write(0, 0, 0, 1, 1);
        x.again(0, 0, 0, 499);
        check.due("write at no such place", x.write(0, 0, 501, 1, 1), BAD);
        check.due("write of no such n", x.write(0, 0, 500, 1, 9), BAD);
        check.due("write", x.write(0, 0, 500, 1, 1), FULL);
        check.due("again from no such place", x.again(0, 0, 500, 1), BAD);
        check.due("again of no such n", x.again(0, 0, 0, 501), BAD);
        check.due("again", x.again(0, 0, 0, 500), FULL);
        for (int k = 1; k <= 8; k++) {
            x.lose(k);
        }
        check.due("lose, told already", x.lose(8), BAD);
        check.due("lose, no such k", x.lose(51), BAD);
        check.due("lose", x.lose(9), FULL);
    }

    private static void noneAndEmptyAndWhole() {
        check.sentence("each is none, or has 0 .. 500 bytes (an empty one is a file, too)");
        RollingSync x = new RollingSync();
        check.due("none: size", x.size(0, 0), NO);
        check.due("none: trim", x.trim(0, 0, 0), BAD);
        check.due("none: drop", x.drop(0, 0), BAD);
        x.write(0, 0, 0, 0, 0);
        check.due("empty: size", x.size(0, 0), 0);
        check.due("empty: at", x.at(0, 0, 0), BAD);
        check.due("empty: trim", x.trim(0, 0, 0), 0);
        check.due("empty: same", x.same(1, 0), 0);
        check.due("empty: a file of the other end, too", x.size(1, 0), 0);
        check.due("empty: drop", x.drop(0, 0), 0);
        check.due("none again", x.size(0, 0), NO);
        x.write(0, 0, 0, 1, 1);
        check.due("whole", x.again(0, 0, 0, 499), 500);
        check.due("whole: same", x.same(1, 0), 500);
        check.due("whole: trim to all", x.trim(1, 0, 500), 500);
        check.due("whole: drop", x.drop(1, 0), 500);
    }

    private static void digestOfNothing() {
        check.sentence("h is -3750763034362895579");
        RollingSync x = new RollingSync();
        x.write(0, 0, 0, 0, 0);
        check.due("of no bytes", x.node(0, 8), -3750763034362895579L);
        x.write(0, 0, 0, 0, 1);
        check.holds("of one that is 0 is another", x.node(0, 8) != -3750763034362895579L);
        check.due("which is", x.node(0, 8), Told.digest(0));
    }

    private static void digestOfKnownTexts() {
        check.sentence("h becomes (h xor b) times 1099511628211, modulo 2^64 (with sign)");
        RollingSync x = new RollingSync();
        // what others tell of this digest (FNV-1a, of 64 bits)
        Told.put(x, 0, 0, Told.bytes("a"));
        check.due("of a", x.node(0, 8), 0xaf63dc4c8601ec8cL);
        Told.put(x, 0, 1, Told.bytes("foobar"));
        check.due("of foobar", x.node(0, 9), 0x85944171f73967e8L);
    }

    private static void digestOfEachByte() {
        check.sentence("for each byte b, 0 .. 255");
        RollingSync x = new RollingSync();
        for (int b = 0; b < 256; b++) {
            x.write(1, 3, 0, b, 1);
            check.due("of " + b, x.node(1, 11), Told.digest(b));
        }
    }

    private static void digestOf500() {
        check.sentence("DIGEST of bytes: of 500");
        RollingSync x = new RollingSync();
        Told.put(x, 1, 3, Told.count(3, 500));
        check.due("all", x.node(1, 11), Told.digest(Told.count(3, 500)));
        x.write(1, 3, 499, 77, 1);
        int[] changed = Told.count(3, 500);
        changed[499] = 77;
        check.due("the last is another", x.node(1, 11), Told.digest(changed));
        x.trim(1, 3, 499);
        check.due("499", x.node(1, 11), Told.digest(Told.count(3, 499)));
    }

    private static void strongByEachK() {
        check.sentence("STRONG, by k (1 .. 8): its lowest 8 k bits");
        // each of the eight bytes of this DIGEST has its highest bit set
        int[] high = {106, 121, 170, 137};
        check.due("the DIGEST", Told.digest(high), 0xc78cf1dde3cfade1L);
        for (int k = 1; k <= 8; k++) {
            RollingSync x = new RollingSync();
            Told.put(x, 1, 5, high);
            x.write(0, 5, 0, 0, 0);
            x.begin(0, high.length, k, 0);
            x.step(ASKED_STEPS + 1);
            check.due("k " + k, x.sums(0, 1), Told.strong(k, high));
            check.due("size by k " + k, x.sent(1), 14 + 6 + 4 + k);
            check.due("its sign by k " + k, Long.signum(x.sums(0, 1)), k == 8 ? -1 : 1);
        }
    }

    private static void weakOfOneByte() {
        check.sentence("WEAK of the B bytes of a block: B is 1");
        RollingSync x = new RollingSync();
        for (int b : new int[] {0, 1, 127, 128, 255}) {
            x.write(0, 1, 0, b, 1);
            check.due("of " + b, x.weak(0, 1, 0, 1), b + 65536L * b);
        }
    }

    private static void weakCountsPlacesFromTheEnd() {
        check.sentence("the sum of (B - i) x(i)");
        RollingSync x = new RollingSync();
        Told.put(x, 0, 1, 1, 0, 0, 0, 1);
        check.due("the first counts B times", x.weak(0, 1, 0, 4), 1 + 65536L * 4);
        check.due("the last counts once", x.weak(0, 1, 1, 4), 1 + 65536L);
        check.due("B is how many there are", x.weak(0, 1, 0, 5), 2 + 65536L * 6);
        check.due("a byte behind does not count", x.weak(0, 1, 0, 1), 1 + 65536L);
    }

    /** 64 bytes whose second sum is 65490, and one more at the place that adds the rest. */
    private static int[] nearTheWrap(int rest) {
        int[] bytes = new int[64];
        Arrays.fill(bytes, 0, 4, 255);
        bytes[4] = 29;
        bytes[64 - rest] = 1;
        return bytes;
    }

    private static void weakWrapsAround() {
        check.sentence("WEAK: 65536 times (the sum of (B - i) x(i), modulo 65536)");
        long sum = 4 * 255 + 29 + 1;
        RollingSync x = new RollingSync();
        Told.put(x, 0, 1, nearTheWrap(45));
        check.due("65535", x.weak(0, 1, 0, 64), sum + 65536L * 65535);
        Told.put(x, 0, 2, nearTheWrap(46));
        check.due("65536 is 0", x.weak(0, 2, 0, 64), sum);
        Told.put(x, 0, 3, nearTheWrap(47));
        check.due("65537 is 1", x.weak(0, 3, 0, 64), sum + 65536L);
        x.write(0, 4, 0, 255, 1);
        x.again(0, 4, 0, 63);
        // 255 times 64 times 65 / 2 is 530400, which is 8 times 65536 and 6112
        check.due("the most", x.weak(0, 4, 0, 64), 16320 + 65536L * 6112);
    }

    private static void weakHasNoSign() {
        check.sentence("WEAK, without sign");
        RollingSync x = new RollingSync();
        int[] bytes = nearTheWrap(45);
        Told.put(x, 1, 1, bytes);
        x.write(0, 1, 0, 0, 0);
        check.holds("weak", x.weak(1, 1, 0, 64) > Integer.MAX_VALUE);
        x.begin(0, 64, 1, 0);
        x.step(ASKED_STEPS + 1);
        check.due("sums", x.sums(0, 0), Told.weak(bytes));
    }

    private static void nodesOfNoneAndEmpty() {
        check.sentence("8 + f is file f: its DIGEST, 0 if it is none");
        RollingSync x = new RollingSync();
        long none = x.node(0, 1);
        for (int file = 0; file < 8; file++) {
            check.due("none", x.node(0, 8 + file), 0);
            x.write(0, file, 0, 0, 0);
            check.due("empty", x.node(0, 8 + file), Told.EMPTY);
            int above = (8 + file) / 2;
            check.holds("another number above, too", x.node(0, above) != x.node(1, above));
            check.holds("and at the top", x.node(0, 1) != none);
            x.drop(0, file);
            check.due("none again", x.node(0, 8 + file), 0);
            check.due("and at the top", x.node(0, 1), none);
        }
    }

    private static void nodesHaveTheHighestByteFirst() {
        check.sentence("NODE 2 n, then NODE 2 n + 1, the highest byte first");
        RollingSync x = new RollingSync();
        Told.put(x, 0, 0, 1);
        Told.put(x, 1, 1, 1);
        check.due("2 n first", x.node(0, 4), Told.joined(Told.digest(1), 0));
        check.due("2 n + 1 behind it", x.node(1, 4), Told.joined(0, Told.digest(1)));
        check.holds("which are not the same", x.node(0, 4) != x.node(1, 4));
        check.due("of NODES that are no files", x.node(0, 2),
            Told.joined(x.node(0, 4), x.node(0, 5)));
        check.due("the top", x.node(1, 1), Told.joined(x.node(1, 2), x.node(1, 3)));
    }

    private static void nodesFollowARun() {
        check.sentence("NODES are always as files are now");
        RollingSync x = new RollingSync();
        Told.put(x, 0, 6, 1, 2, 3);
        x.begin(0, 4, 1, 0);
        x.step(ASKED_STEPS + 2);
        check.due("BUILT, but not in place", x.node(1, 14), 0);
        x.step(1);
        check.due("in place", x.node(1, 14), Told.digest(1, 2, 3));
        check.due("and above", x.node(1, 1), x.node(0, 1));
        x.step(200);
        x.drop(0, 6);
        x.begin(0, 4, 1, 1);
        x.step(ASKED_STEPS + 2);
        check.due("none by RULE 1", x.node(1, 14), 0);
        check.due("and above", x.node(1, 1), x.node(0, 1));
        Told.put(x, 1, 6, 9);
        x.begin(0, 4, 1, 2);
        x.step(200);
        check.due("none by RULE 2", x.node(1, 14), 0);
        check.due("and above", x.node(1, 1), x.node(0, 1));
    }
}
