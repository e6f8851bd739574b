/** Promises 1 to 9 and 18: what needs no RUN. */
public final class FilesTest {
    private static final int BAD = Told.BAD, NO = Told.NO, FULL = Told.FULL;
    private static final int[] FAR = {Integer.MIN_VALUE, -1, Integer.MAX_VALUE};
    private static final Check check = new Check("FilesTest");

    private FilesTest() {
    }

    public static void main(String[] args) {
        newObject();
        write();
        writeAtTheLimit();
        again();
        trim();
        drop();
        same();
        at();
        size();
        node();
        nodeFollowsEachChange();
        weak();
        noSuchEndOrFile();
        check.finish();
    }

    private static void newObject() {
        check.sentence("No files, no RUN");
        RollingSync x = new RollingSync();
        for (int end = 0; end < 2; end++) {
            for (int file = 0; file < 8; file++) {
                check.due("size of a new object", x.size(end, file), NO);
                check.due("node of a file that is none", x.node(end, 8 + file), 0);
            }
            check.due("sent of a new object", x.sent(end), 0);
        }
        for (int what = 0; what < 16; what++) {
            check.due("state(" + what + ") of a new object", x.state(what), what == 14 ? NO : 0);
        }
        check.due("built of a new object", x.built(0), BAD);
        check.due("sums of a new object", x.sums(0, 0), BAD);
        check.due("step of a new object", x.step(1), NO);
        check.due("cut of a new object", x.cut(), NO);
        RollingSync other = new RollingSync();
        other.write(0, 0, 0, 1, 1);
        check.due("objects share nothing", x.size(0, 0), NO);
    }

    private static void write() {
        check.sentence("The lowest n bytes of a number are written from a place on");
        RollingSync x = new RollingSync();
        check.due("write of a file that is none", x.write(0, 3, 0, 0x0102030405060708L, 8), 8);
        check.holds("highest byte first", Told.has(x, 0, 3, 1, 2, 3, 4, 5, 6, 7, 8));
        check.due("the lowest n bytes", x.write(0, 3, 2, 0x1122334455667788L, 3), 8);
        check.holds("written in the file", Told.has(x, 0, 3, 1, 2, 0x66, 0x77, 0x88, 6, 7, 8));
        check.due("over the end", x.write(0, 3, 7, 0xAABBL, 2), 9);
        check.due("just behind it", x.write(0, 3, 9, -1L, 8), 17);
        check.due("a negative number's byte", x.at(0, 3, 16), 255);
        check.due("n is 0", x.write(0, 3, 17, 5, 0), 17);
        check.due("the other end has none", x.size(1, 3), NO);
        check.due("n is 0, of a file that is none", x.write(1, 4, 0, 5, 0), 0);
        check.due("which is an empty one then", x.size(1, 4), 0);

        check.due("place behind", x.write(0, 3, 18, 5, 0), BAD);
        check.due("place 1 of a file that is none", x.write(0, 5, 1, 5, 1), BAD);
        check.due("which is none still", x.size(0, 5), NO);
        check.due("n 9", x.write(0, 3, 0, 5, 9), BAD);
        for (int far : FAR) {
            check.due("place " + far, x.write(0, 3, far, 5, 1), BAD);
            check.due("n " + far, x.write(0, 3, 0, 5, far), BAD);
        }
        check.due("BAD changes nothing", x.size(0, 3), 17);
    }

    private static void writeAtTheLimit() {
        check.sentence("write: FULL: more than 500");
        RollingSync x = new RollingSync();
        x.write(0, 0, 0, 1, 1);
        x.again(0, 0, 0, 495);
        check.due("497 of 500", x.write(0, 0, 496, 7, 1), 497);
        check.due("501", x.write(0, 0, 497, 7, 4), FULL);
        check.due("FULL changes nothing", x.size(0, 0), 497);
        check.due("501 from the middle", x.write(0, 0, 493, 7, 8), FULL);
        check.due("500", x.write(0, 0, 492, 0x0203040506070809L, 8), 500);
        check.due("its last byte", x.at(0, 0, 499), 9);
        check.due("none behind 500", x.write(0, 0, 500, 7, 0), 500);
        check.due("one behind 500", x.write(0, 0, 500, 7, 1), FULL);
        check.due("BAD is before FULL", x.write(0, 0, 501, 7, 8), BAD);
        check.due("BAD n is before FULL", x.write(0, 0, 500, 7, 9), BAD);
    }

    private static void again() {
        check.sentence("n bytes of a file, from a place on, are put behind it, one by one");
        RollingSync x = new RollingSync();
        Told.put(x, 1, 2, 10, 20, 30);
        check.due("again", x.again(1, 2, 1, 2), 5);
        check.holds("bytes from the place on", Told.has(x, 1, 2, 10, 20, 30, 20, 30));
        check.due("again of such as were just put", x.again(1, 2, 3, 5), 10);
        check.holds("one by one", Told.has(x, 1, 2, 10, 20, 30, 20, 30, 20, 30, 20, 30, 20));
        check.due("n is 0", x.again(1, 2, 9, 0), 10);
        check.due("place is its size", x.again(1, 2, 10, 0), BAD);
        check.due("n 501", x.again(1, 2, 0, 501), BAD);
        check.due("n 500", x.again(1, 2, 0, 500), FULL);
        check.due("n 491", x.again(1, 2, 0, 491), FULL);
        check.due("nothing has changed", x.size(1, 2), 10);
        check.due("n 490", x.again(1, 2, 0, 490), 500);
        check.due("one more", x.again(1, 2, 0, 1), FULL);
        check.due("BAD is before FULL", x.again(1, 2, 500, 1), BAD);
        for (int far : FAR) {
            check.due("from " + far, x.again(1, 2, far, 0), BAD);
            check.due("n " + far, x.again(1, 2, 0, far), BAD);
        }
        check.due("a file that is none", x.again(0, 2, 0, 0), BAD);
        x.write(0, 2, 0, 0, 0);
        check.due("an empty file has no place", x.again(0, 2, 0, 0), BAD);
    }

    private static void trim() {
        check.sentence("A file keeps its first n bytes: how many it had");
        RollingSync x = new RollingSync();
        Told.put(x, 0, 7, 1, 2, 3, 4, 5);
        check.due("trim to its size", x.trim(0, 7, 5), 5);
        check.due("trim to more", x.trim(0, 7, 6), BAD);
        check.due("trim to 2", x.trim(0, 7, 2), 5);
        check.holds("its first two", Told.has(x, 0, 7, 1, 2));
        check.due("a byte behind", x.at(0, 7, 2), BAD);
        for (int far : FAR) {
            check.due("trim to " + far, x.trim(0, 7, far), BAD);
        }
        check.due("trim to 0", x.trim(0, 7, 0), 2);
        check.due("an empty file is a file", x.size(0, 7), 0);
        check.due("trim of an empty one", x.trim(0, 7, 0), 0);
        check.due("trim of none", x.trim(1, 7, 0), BAD);
        x.write(0, 7, 0, 9, 1);
        check.holds("old bytes do not come back", Told.has(x, 0, 7, 9));
    }

    private static void drop() {
        check.sentence("A file is none: its size");
        RollingSync x = new RollingSync();
        Told.put(x, 0, 0, 1, 2, 3);
        x.write(1, 0, 0, 0, 0);
        check.due("drop", x.drop(0, 0), 3);
        check.due("it is none", x.size(0, 0), NO);
        check.due("drop of none", x.drop(0, 0), BAD);
        check.due("drop of an empty one", x.drop(1, 0), 0);
        check.due("it is none, too", x.size(1, 0), NO);
        check.due("write behind what was", x.write(0, 0, 3, 1, 1), BAD);
        check.due("write of nothing", x.write(0, 0, 0, 1, 0), 0);
        check.due("write at 0", x.write(0, 0, 0, 1, 1), 1);
    }

    private static void same() {
        check.sentence("An end's file becomes as the other end's is (none, too): its size");
        RollingSync x = new RollingSync();
        Told.put(x, 0, 6, 1, 2, 3);
        Told.put(x, 1, 6, 9, 9, 9, 9, 9);
        check.due("same", x.same(1, 6), 3);
        check.holds("the bytes of the other end", Told.has(x, 1, 6, 1, 2, 3));
        x.write(0, 6, 0, 7, 1);
        check.due("they are no longer bound", x.at(1, 6, 0), 1);
        check.due("same the other way", x.same(0, 6), 3);
        check.due("as the other", x.at(0, 6, 0), 1);
        x.trim(1, 6, 0);
        check.due("same as an empty one", x.same(0, 6), 0);
        check.due("which is a file", x.size(0, 6), 0);
        x.drop(1, 6);
        check.due("same as none", x.same(0, 6), 0);
        check.due("which is none", x.size(0, 6), NO);
        check.due("none as none", x.same(0, 6), 0);
    }

    private static void at() {
        check.sentence("Byte i of a file; BAD: no such end, file, byte");
        RollingSync x = new RollingSync();
        Told.put(x, 1, 1, 0, 128, 255);
        check.due("byte 0", x.at(1, 1, 0), 0);
        check.due("byte 1", x.at(1, 1, 1), 128);
        check.due("byte 2", x.at(1, 1, 2), 255);
        check.due("byte 3", x.at(1, 1, 3), BAD);
        for (int far : FAR) {
            check.due("byte " + far, x.at(1, 1, far), BAD);
        }
        check.due("of none", x.at(0, 1, 0), BAD);
    }

    private static void size() {
        check.sentence("A file's size; NO: it is none");
        RollingSync x = new RollingSync();
        check.due("none", x.size(1, 5), NO);
        x.write(1, 5, 0, 0, 8);
        check.due("eight", x.size(1, 5), 8);
        check.due("the file beside", x.size(1, 4), NO);
    }

    private static void node() {
        check.sentence("A NODE (1 .. 15) of an end; 0: no such");
        RollingSync x = new RollingSync();
        int[][] files = new int[8][];
        for (int file = 0; file < 8; file++) {
            files[file] = Told.count(40 * file, 5 * file);
            Told.put(x, 1, file, files[file]);
        }
        x.drop(1, 3);
        long[] nodes = new long[16];
        for (int n = 15; n >= 8; n--) {
            nodes[n] = n == 11 ? 0 : Told.digest(files[n - 8]);
            check.due("node " + n, x.node(1, n), nodes[n]);
        }
        for (int n = 7; n >= 1; n--) {
            nodes[n] = Told.joined(nodes[2 * n], nodes[2 * n + 1]);
            check.due("node " + n, x.node(1, n), nodes[n]);
        }
        long none = Told.joined(0, 0);
        check.due("node 4 of none", x.node(0, 4), none);
        check.due("node 3 of none", x.node(0, 3), Told.joined(none, none));
        check.due("the digest of an empty file", x.node(1, 8), Told.EMPTY);
        check.due("node 0", x.node(1, 0), 0);
        check.due("node 16", x.node(1, 16), 0);
        check.due("node of end 2", x.node(2, 1), 0);
        for (int far : FAR) {
            check.due("node " + far, x.node(1, far), 0);
            check.due("node of end " + far, x.node(far, 1), 0);
        }
    }

    private static void nodeFollowsEachChange() {
        check.sentence("NODES are always as files are now");
        RollingSync x = new RollingSync();
        long none = x.node(0, 1);
        Told.put(x, 0, 4, 1, 2);
        check.due("after write", x.node(0, 12), Told.digest(1, 2));
        x.again(0, 4, 0, 3);
        check.due("after again", x.node(0, 12), Told.digest(1, 2, 1, 2, 1));
        x.trim(0, 4, 3);
        check.due("after trim", x.node(0, 12), Told.digest(1, 2, 1));
        x.same(1, 4);
        check.due("after same", x.node(1, 12), Told.digest(1, 2, 1));
        check.due("all of the tree", x.node(1, 1), x.node(0, 1));
        x.drop(0, 4);
        check.due("after drop", x.node(0, 12), 0);
        check.due("as it was", x.node(0, 1), none);
        x.same(1, 4);
        check.due("after same as none", x.node(1, 1), none);
    }

    private static void weak() {
        check.sentence("WEAK of n bytes (1 .. 64) of a file from a place on, without sign");
        RollingSync x = new RollingSync();
        Told.put(x, 0, 1, 1, 2, 3, 4);
        check.due("of 1 2 3", x.weak(0, 1, 0, 3), 6 + 65536L * 10);
        check.due("of 2 3 4", x.weak(0, 1, 1, 3), 9 + 65536L * 16);
        check.due("of one", x.weak(0, 1, 3, 1), 4 + 65536L * 4);
        check.due("n 0", x.weak(0, 1, 0, 0), BAD);
        check.due("more than there are", x.weak(0, 1, 2, 3), BAD);
        check.due("behind", x.weak(0, 1, 4, 1), BAD);
        check.due("of none", x.weak(1, 1, 0, 1), BAD);
        x.write(0, 2, 0, 255, 1);
        x.again(0, 2, 0, 99);
        int[] high = new int[64];
        java.util.Arrays.fill(high, 255);
        check.due("64 of 255", x.weak(0, 2, 36, 64), Told.weak(high));
        check.due("which is", x.weak(0, 2, 0, 64), 16320 + 65536L * (530400 % 65536));
        check.due("n 65", x.weak(0, 2, 0, 65), BAD);
        // 22 of 255: the weighted sum is 64515, so that the highest bit of an int is set
        check.due("without sign", x.weak(0, 2, 0, 22), 22 * 255 + 65536L * 64515);
        for (int far : FAR) {
            check.due("place " + far, x.weak(0, 1, far, 1), BAD);
            check.due("n " + far, x.weak(0, 1, 0, far), BAD);
        }
    }

    private static void noSuchEndOrFile() {
        check.sentence("BAD: no such end, file");
        RollingSync x = new RollingSync();
        Told.put(x, 0, 0, 1, 2, 3);
        Told.put(x, 1, 7, 1, 2, 3);
        int[][] wrong = {{-1, 0}, {2, 0}, {0, -1}, {0, 8}, {1, 8}, {Integer.MIN_VALUE, 7},
            {Integer.MAX_VALUE, 7}, {1, Integer.MIN_VALUE}, {1, Integer.MAX_VALUE}};
        for (int[] pair : wrong) {
            int end = pair[0];
            int file = pair[1];
            String of = " of end " + end + ", file " + file;
            check.due("write" + of, x.write(end, file, 0, 1, 1), BAD);
            check.due("again" + of, x.again(end, file, 0, 1), BAD);
            check.due("trim" + of, x.trim(end, file, 0), BAD);
            check.due("drop" + of, x.drop(end, file), BAD);
            check.due("same" + of, x.same(end, file), BAD);
            check.due("at" + of, x.at(end, file, 0), BAD);
            check.due("size" + of, x.size(end, file), BAD);
            check.due("weak" + of, x.weak(end, file, 0, 1), BAD);
        }
        check.holds("nothing has changed", Told.has(x, 0, 0, 1, 2, 3));
        check.holds("nor at the other end", Told.has(x, 1, 7, 1, 2, 3));
    }
}
