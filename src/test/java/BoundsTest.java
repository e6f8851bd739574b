import java.util.Arrays;

/**
 * Each number of the promises 2 to 18 just inside its bounds, at both ends of them; what is just
 * outside is refused, which is RefusalTest's.
 */
public final class BoundsTest {
    private static final int BAD = Told.BAD, NO = Told.NO, FULL = Told.FULL;
    private static final int ASKED_STEPS = Told.ASKED_STEPS;
    private static final Check check = new Check("BoundsTest");

    private BoundsTest() {
    }

    public static void main(String[] args) {
        endsAndFiles();
        writeOfEachN();
        writeOfEachPlace();
        writeOfAnyNumber();
        writeUpTo500();
        againOfEachPlace();
        againOfEachN();
        againUpTo500();
        trimOfEachN();
        dropOfEachSize();
        sameOfEachSize();
        atOfEachByte();
        nodesOneToFifteen();
        beginOfEachNumber();
        stepOneAndTwoHundred();
        stepJustTillOver();
        loseTheFirst();
        loseTheFiftieth();
        loseEight();
        cutOfEachStep();
        stateBeforeAnyRun();
        sentOfBothEnds();
        builtUpTo500();
        sumsUpTo500();
        weakOfEachN();
        weakOfEachPlace();
        check.finish();
    }

    private static RollingSync filled(int end, int file, int size) {
        RollingSync x = new RollingSync();
        fill(x, end, file, size);
        return x;
    }

    /** A file of any size, whose bytes begin anew behind 251 of them. */
    private static void fill(RollingSync x, int end, int file, int size) {
        Told.put(x, end, file, expected(size));
    }

    private static int[] expected(int size) {
        int[] bytes = new int[size];
        for (int i = 0; i < size; i++) {
            bytes[i] = i % 251;
        }
        return bytes;
    }

    private static void endsAndFiles() {
        check.sentence("ENDS are 0, 1; FILES 0 .. 7");
        RollingSync x = new RollingSync();
        for (int end = 0; end < 2; end++) {
            for (int file = 0; file < 8; file++) {
                int mark = 1 + 8 * end + file;
                check.due("write", x.write(end, file, 0, mark, 1), 1);
            }
        }
        for (int end = 0; end < 2; end++) {
            for (int file = 0; file < 8; file++) {
                int mark = 1 + 8 * end + file;
                check.due("each is one of its own", x.at(end, file, 0), mark);
                check.due("size", x.size(end, file), 1);
                check.due("weak", x.weak(end, file, 0, 1), mark + 65536L * mark);
                check.due("again", x.again(end, file, 0, 1), 2);
                check.due("trim", x.trim(end, file, 1), 2);
                check.due("node", x.node(end, 8 + file), Told.digest(mark));
            }
        }
        for (int file = 0; file < 8; file++) {
            check.due("same", x.same(file % 2, file), 1);
            check.due("as the other end's", x.at(file % 2, file, 0), 1 + 8 * (1 - file % 2) + file);
        }
        for (int end = 0; end < 2; end++) {
            for (int file = 0; file < 8; file++) {
                check.due("drop", x.drop(end, file), 1);
            }
        }
    }

    private static void writeOfEachN() {
        check.sentence("The lowest n (0 .. 8) bytes of a number, the highest of them first");
        for (int n = 0; n <= 8; n++) {
            RollingSync x = new RollingSync();
            check.due("n " + n, x.write(0, 7, 0, 0xF1F2F3F4F5F6F7F8L, n), n);
            int[] bytes = new int[n];
            for (int i = 0; i < n; i++) {
                bytes[i] = 0xF0 + 8 - n + 1 + i;
            }
            check.holds("n " + n + ": its bytes", Told.has(x, 0, 7, bytes));
        }
        check.sentence("(a file that is none becomes one)");
        RollingSync x = new RollingSync();
        check.due("n 0", x.write(1, 0, 0, -1, 0), 0);
        check.due("an empty file", x.size(1, 0), 0);
        check.due("its digest", x.node(1, 8), Told.EMPTY);
        check.due("not of the other end", x.size(0, 0), NO);
    }

    private static void writeOfEachPlace() {
        check.sentence("from a place on, which is in the file or just behind it: its size then");
        for (int at = 0; at <= 10; at++) {
            RollingSync x = filled(0, 3, 10);
            int[] bytes = Arrays.copyOf(expected(10), Math.max(10, at + 3));
            bytes[at] = 0xAA;
            bytes[at + 1] = 0xBB;
            bytes[at + 2] = 0xCC;
            check.due("place " + at, x.write(0, 3, at, 0x11AABBCCL, 3), bytes.length);
            check.holds("place " + at + ": its bytes", Told.has(x, 0, 3, bytes));
            check.due("place " + at + ": its digest", x.node(0, 11), Told.digest(bytes));
        }
        RollingSync x = filled(0, 3, 10);
        for (int at = 0; at <= 10; at++) {
            check.due("place " + at + ", n 0", x.write(0, 3, at, -1, 0), 10);
        }
        check.holds("n 0 changes no byte", Told.has(x, 0, 3, expected(10)));
        x.trim(0, 3, 0);
        check.due("place 0 of an empty file", x.write(0, 3, 0, 9, 1), 1);
    }

    private static void writeOfAnyNumber() {
        check.sentence("bytes of a number (the least and the greatest, too); bytes 0 .. 255");
        RollingSync x = new RollingSync();
        x.write(0, 0, 0, Long.MIN_VALUE, 8);
        check.holds("the least", Told.has(x, 0, 0, 128, 0, 0, 0, 0, 0, 0, 0));
        x.write(0, 0, 0, Long.MAX_VALUE, 8);
        check.holds("the greatest", Told.has(x, 0, 0, 127, 255, 255, 255, 255, 255, 255, 255));
        x.write(0, 0, 0, -1L, 8);
        check.holds("-1", Told.has(x, 0, 0, 255, 255, 255, 255, 255, 255, 255, 255));
        x.write(0, 0, 0, 0L, 8);
        check.holds("0", Told.has(x, 0, 0, 0, 0, 0, 0, 0, 0, 0, 0));
        x.write(0, 1, 0, Long.MIN_VALUE, 7);
        check.holds("seven of the least", Told.has(x, 0, 1, 0, 0, 0, 0, 0, 0, 0));
        x.write(0, 2, 0, Long.MAX_VALUE, 1);
        check.holds("one of the greatest", Told.has(x, 0, 2, 255));
        x.write(0, 3, 0, 0x80000000L, 4);
        check.holds("four, the highest bit set", Told.has(x, 0, 3, 128, 0, 0, 0));
        x.write(0, 4, 0, -256L, 5);
        check.holds("five of -256", Told.has(x, 0, 4, 255, 255, 255, 255, 0));
    }

    private static void writeUpTo500() {
        check.sentence("write: FULL: more than 500");
        for (int n = 1; n <= 8; n++) {
            RollingSync x = filled(1, 5, 500 - n);
            check.due(n + " behind " + (500 - n), x.write(1, 5, 500 - n, 1, n), 500);
            x = filled(1, 5, 501 - n);
            check.due(n + " behind " + (501 - n), x.write(1, 5, 501 - n, 1, n), FULL);
            check.due("as it was", x.node(1, 13), Told.digest(expected(501 - n)));
            check.due(n + " from " + (500 - n), x.write(1, 5, 500 - n, 1, n), 500);
        }
        RollingSync x = filled(0, 5, 500);
        check.due("none behind 500", x.write(0, 5, 500, -1, 0), 500);
        check.due("the last byte", x.write(0, 5, 499, 9, 1), 500);
        check.due("is written", x.at(0, 5, 499), 9);
        check.due("eight in the middle", x.write(0, 5, 0, 9, 8), 500);
    }

    private static void againOfEachPlace() {
        check.sentence("n bytes of a file, from a place on, are put behind it, one by one");
        for (int from = 0; from < 5; from++) {
            RollingSync x = filled(1, 6, 5);
            int[] bytes = Arrays.copyOf(expected(5), 17);
            for (int i = 0; i < 12; i++) {
                bytes[5 + i] = bytes[from + i];
            }
            check.due("place " + from, x.again(1, 6, from, 12), 17);
            check.holds("such as were just put, from " + from, Told.has(x, 1, 6, bytes));
            check.due("its digest", x.node(1, 14), Told.digest(bytes));
        }
    }

    private static void againOfEachN() {
        check.sentence("n is not 0 .. 500");
        RollingSync x = filled(0, 6, 1);
        check.due("n 0", x.again(0, 6, 0, 0), 1);
        check.due("n 1", x.again(0, 6, 0, 1), 2);
        check.due("n 498", x.again(0, 6, 1, 498), 500);
        check.due("n 0 behind 500", x.again(0, 6, 499, 0), 500);
        check.due("n 500 is no wrong number", x.again(0, 6, 0, 500), FULL);
        check.due("n 501 is one", x.again(0, 6, 0, 501), BAD);
    }

    private static void againUpTo500() {
        check.sentence("again: FULL");
        for (int size : new int[] {1, 2, 250, 499}) {
            RollingSync x = filled(0, 6, size);
            check.due("501", x.again(0, 6, 0, 501 - size), FULL);
            check.due("as it was", x.size(0, 6), size);
            check.due("500", x.again(0, 6, 0, 500 - size), 500);
            check.due("its last byte", x.at(0, 6, 499), expected(size)[499 % size]);
        }
    }

    private static void trimOfEachN() {
        check.sentence("A file keeps its first n bytes: how many it had");
        for (int size : new int[] {0, 1, 5, 500}) {
            for (int n : new int[] {0, 1, size - 1, size}) {
                if (n >= 0 && n <= size) {
                    RollingSync x = filled(0, 1, size);
                    check.due(n + " of " + size, x.trim(0, 1, n), size);
                    check.due("they are kept", x.size(0, 1), n);
                    check.due("no more of them", x.at(0, 1, n), BAD);
                    check.due("their digest", x.node(0, 9), Told.digest(expected(n)));
                }
            }
        }
    }

    private static void dropOfEachSize() {
        check.sentence("A file is none: its size");
        for (int size : new int[] {0, 1, 500}) {
            RollingSync x = filled(1, 2, size);
            check.due("of " + size, x.drop(1, 2), size);
            check.due("it is none", x.size(1, 2), NO);
            check.due("its NODE", x.node(1, 10), 0);
            check.due("once more", x.drop(1, 2), BAD);
            check.due("a byte of it", x.at(1, 2, 0), BAD);
        }
    }

    private static void sameOfEachSize() {
        check.sentence("An end's file becomes as the other end's is (none, too)");
        for (int mine : new int[] {NO, 0, 3, 500}) {
            for (int others : new int[] {NO, 0, 1, 500}) {
                RollingSync x = new RollingSync();
                if (mine != NO) {
                    x.write(0, 4, 0, 0, 0);
                    Told.put(x, 0, 4, Told.count(77, mine));
                }
                if (others != NO) {
                    fill(x, 1, 4, others);
                }
                check.due(mine + " as " + others, x.same(0, 4), Math.max(0, others));
                check.due("its size", x.size(0, 4), others);
                check.due("the other end's size", x.size(1, 4), others);
                long digest = others == NO ? 0 : Told.digest(expected(others));
                check.due("its digest", x.node(0, 12), digest);
            }
        }
    }

    private static void atOfEachByte() {
        check.sentence("Byte i of a file; BAD: no such byte");
        RollingSync x = filled(0, 2, 500);
        check.due("byte 0", x.at(0, 2, 0), 0);
        check.due("byte 250", x.at(0, 2, 250), 250);
        check.due("byte 251", x.at(0, 2, 251), 0);
        check.due("byte 499", x.at(0, 2, 499), 499 - 251);
        check.due("byte 500", x.at(0, 2, 500), BAD);
        x.trim(0, 2, 1);
        check.due("byte 0 of one", x.at(0, 2, 0), 0);
        check.due("byte 1 of one", x.at(0, 2, 1), BAD);
    }

    private static void nodesOneToFifteen() {
        check.sentence("A NODE (1 .. 15) of an end; 0: no such");
        RollingSync x = new RollingSync();
        for (int end = 0; end < 2; end++) {
            long level = 0;
            for (int from = 4; from >= 1; from /= 2) {
                level = Told.joined(level, level);
                for (int n = from; n < 2 * from; n++) {
                    check.due("NODE " + n + " of no files", x.node(end, n), level);
                }
            }
            check.due("NODE 0", x.node(end, 0), 0);
            check.due("NODE 16", x.node(end, 16), 0);
        }
        fill(x, 1, 7, 500);
        check.due("NODE 15", x.node(1, 15), Told.digest(expected(500)));
        check.due("NODE 7", x.node(1, 7), Told.joined(0, x.node(1, 15)));
        check.due("NODE 3", x.node(1, 3), Told.joined(x.node(1, 6), x.node(1, 7)));
        check.due("NODE 1", x.node(1, 1), Told.joined(x.node(1, 2), x.node(1, 3)));
        check.due("of end 0", x.node(0, 15), 0);
    }

    private static void beginOfEachNumber() {
        check.sentence("A RUN begins: 1");
        for (int source = 0; source < 2; source++) {
            for (int block : new int[] {1, 2, 63, 64}) {
                for (int k = 1; k <= 8; k++) {
                    for (int rule = 0; rule < 3; rule++) {
                        RollingSync x = filled(source, 0, 3);
                        check.due("begin", x.begin(source, block, k, rule), 1);
                        check.states("begun", x, 0, 1, 1, 0, 15, 1);
                        x.step(200);
                        check.due("alike", x.size(1 - source, 0), 3);
                        check.states("its k", x, 0, 2, 12, k);
                    }
                }
            }
        }
    }

    private static void stepOneAndTwoHundred() {
        check.sentence("n STEPS (1 .. 200)");
        RollingSync x = filled(0, 0, 500);
        fill(x, 1, 0, 250);
        x.write(1, 0, 0, 99, 1);
        x.begin(0, 1, 8, 0);
        check.due("1", x.step(1), 1);
        check.states("one", x, 1, 1, 2, 1);
        check.due("199", x.step(199), 199);
        check.states("200", x, 1, 200, 0, 1);
        check.due("200", x.step(200), 200);
        check.states("400", x, 1, 400, 2, 400, 0, 1);
    }

    private static void stepJustTillOver() {
        check.sentence("or as many as there are till the RUN is OVER: how many there were");
        int all = ASKED_STEPS + 4;
        for (int n : new int[] {all - 1, all, all + 1, 200}) {
            RollingSync x = filled(0, 0, 3);
            x.begin(0, 4, 1, 0);
            check.due("n " + n, x.step(n), Math.min(all, n));
            check.states("n " + n, x, 0, n < all ? 1 : 2, 1, Math.min(all, n));
            check.due("then", x.step(5), n < all ? 1 : NO);
        }
        RollingSync x = new RollingSync();
        x.lose(2);
        x.begin(0, 4, 1, 0);
        check.due("in a STEP that sends nothing", x.step(4), 4);
        check.states("it GOES", x, 0, 1);
        check.due("the last one", x.step(200), 1);
    }

    private static void loseTheFirst() {
        check.sentence("The k-th (1 .. 50) MESSAGE that is sent from now on: the first");
        RollingSync x = new RollingSync();
        check.due("k 1", x.lose(1), 1);
        x.begin(0, 4, 1, 0);
        x.step(1);
        check.states("LOST", x, 2, 1, 3, 1);
        check.due("from now on", x.lose(1), 1);
        x.step(2);
        check.due("nothing was sent: it is told already", x.lose(1), BAD);
        x.step(1);
        check.states("LOST again", x, 2, 2, 3, 2);
        check.due("till OVER", x.step(200), 4);
        check.states("no more", x, 2, 4, 3, 2);
    }

    private static void loseTheFiftieth() {
        check.sentence("The k-th (1 .. 50) MESSAGE that is sent from now on: the fiftieth");
        RollingSync x = filled(0, 0, 500);
        fill(x, 1, 0, 250);
        x.write(1, 0, 0, 99, 1);
        x.begin(0, 1, 8, 0);
        x.step(3);
        check.due("k 50", x.lose(50), 1);
        x.step(49);
        check.states("the 49th", x, 2, 52, 3, 0);
        x.step(1);
        check.states("the 50th", x, 1, 53, 2, 53, 3, 1);
        x.step(20);
        check.states("none behind it", x, 1, 73, 2, 71, 3, 1);
        RollingSync y = new RollingSync();
        y.lose(50);
        y.begin(0, 1, 1, 0);
        y.step(1);
        check.due("it is the 49th by now", y.lose(49), BAD);
        check.due("and another the 50th", y.lose(50), 2);
    }

    private static void loseEight() {
        check.sentence("how many such are told and were not sent yet. FULL: eight are");
        RollingSync x = new RollingSync();
        for (int i = 1; i <= 8; i++) {
            check.due("the " + i + "-th", x.lose(51 - i), i);
        }
        check.due("the ninth", x.lose(1), FULL);
        for (int run = 0; run < 21; run++) {
            x.begin(0, 1, 1, 0);
            check.due("a RUN without a loss", x.step(200), 2);
        }
        x.begin(0, 1, 1, 0);
        check.due("the 43rd was LOST", x.step(1), 1);
        check.states("LOST", x, 3, 1);
        check.due("the next seven", x.lose(7), BAD);
        check.due("but no eighth", x.lose(8), 8);
        check.due("a ninth again", x.lose(9), FULL);
        check.due("eight times LOST again", x.step(200), 3 * 9 + 1);
        check.states("LOST", x, 0, 2, 2, 11, 3, 9);
        check.due("none is told any more", x.lose(1), 1);
    }

    private static void cutOfEachStep() {
        check.sentence("A RUN that GOES is CUT: how many STEPS it had");
        int all = ASKED_STEPS + 4 + 2;
        for (int steps = 0; steps < all; steps++) {
            RollingSync x = filled(0, 0, 3);
            x.lose(all - 2);
            x.begin(0, 4, 1, 0);
            for (int i = 0; i < steps; i++) {
                x.step(1);
            }
            check.due("behind " + steps, x.cut(), steps);
            check.states("CUT", x, 0, 3, 1, steps, 13, 0);
            check.due("once more", x.cut(), NO);
            check.due("STEPS", x.step(1), NO);
            check.due("another may begin", x.begin(0, 4, 1, 0), 1);
        }
    }

    private static void stateBeforeAnyRun() {
        check.sentence("0 there was none; (0 before); (NO before)");
        RollingSync x = filled(0, 0, 3);
        for (int what = 0; what < 16; what++) {
            check.due("state(" + what + ")", x.state(what), what == 14 ? NO : 0);
        }
        x.begin(0, 4, 5, 0);
        x.step(ASKED_STEPS);
        check.states("SUMS were not sent yet", x, 12, 0, 14, 1);
        x.step(1);
        check.states("they were", x, 12, 5, 14, 2);
        check.sentence("Of the latest RUN");
        x.step(200);
        check.states("OVER", x, 0, 2, 12, 5, 14, 7);
        x.begin(0, 4, 1, 0);
        check.states("the next", x, 0, 1, 1, 0, 2, 0, 5, 0, 9, 0, 12, 0, 14, NO, 15, 1);
    }

    private static void sentOfBothEnds() {
        check.sentence("How many bytes the MESSAGES of an end had, in all (LOST ones, too)");
        for (int source = 0; source < 2; source++) {
            RollingSync x = new RollingSync();
            x.begin(source, 4, 1, 0);
            check.due("nothing yet", x.sent(0) + x.sent(1), 0);
            x.lose(1);
            x.step(1);
            check.due("a LOST ASK", x.sent(1 - source), 2);
            check.due("no NODE yet", x.sent(source), 0);
            x.step(3);
            check.due("the ASK again", x.sent(1 - source), 4);
            x.lose(1);
            x.step(1);
            check.due("a LOST NODE", x.sent(source), 10);
            x.step(3);
            check.due("the NODE again", x.sent(source), 20);
        }
    }

    private static void builtUpTo500() {
        check.sentence("Byte i of what is BUILT; BAD: none such");
        RollingSync x = filled(0, 0, 500);
        x.begin(0, 64, 1, 0);
        x.step(ASKED_STEPS + 1);
        check.due("nothing is", x.built(0), BAD);
        x.step(1);
        check.due("byte 15", x.built(15), 15);
        check.due("byte 16", x.built(16), BAD);
        x.step(31);
        check.states("all of it", x, 9, 500, 13, 500, 14, 4);
        check.due("byte 0", x.built(0), 0);
        check.due("byte 499", x.built(499), 499 - 251);
        check.due("byte 500", x.built(500), BAD);
        check.due("byte -1", x.built(-1), BAD);
        check.due("END and ANSWER", x.step(200), 2);
        check.due("in place", x.size(1, 0), 500);
        check.due("all of it", x.node(1, 8), x.node(0, 8));
    }

    private static void sumsUpTo500() {
        check.sentence("Of block i of the latest SUMS that came");
        RollingSync x = filled(1, 0, 500);
        x.begin(0, 1, 8, 0);
        x.step(ASKED_STEPS);
        check.due("none came", x.sums(0, 0), BAD);
        x.step(1);
        for (int i : new int[] {0, 1, 250, 251, 498, 499}) {
            check.due("WEAK " + i, x.sums(i, 0), Told.weak(i % 251));
            check.due("STRONG " + i, x.sums(i, 1), Told.digest(i % 251));
        }
        check.due("WEAK 500", x.sums(500, 0), BAD);
        check.due("STRONG 500", x.sums(500, 1), BAD);
        check.due("their size", x.sent(1), 14 + 6 + 500 * 12);
    }

    private static void weakOfEachN() {
        check.sentence("WEAK of n bytes (1 .. 64) of a file from a place on");
        RollingSync x = filled(1, 3, 500);
        for (int n = 1; n <= 64; n++) {
            int[] bytes = Arrays.copyOfRange(expected(500), 200, 200 + n);
            check.due("n " + n, x.weak(1, 3, 200, n), Told.weak(bytes));
        }
        check.due("n 0", x.weak(1, 3, 200, 0), BAD);
        check.due("n 65", x.weak(1, 3, 200, 65), BAD);
    }

    private static void weakOfEachPlace() {
        check.sentence("weak: BAD: no such bytes");
        RollingSync x = filled(0, 3, 500);
        check.due("the first 64", x.weak(0, 3, 0, 64), Told.weak(expected(64)));
        int[] last = Arrays.copyOfRange(expected(500), 436, 500);
        check.due("the last 64", x.weak(0, 3, 436, 64), Told.weak(last));
        check.due("64 from 437", x.weak(0, 3, 437, 64), BAD);
        check.due("the last", x.weak(0, 3, 499, 1), Told.weak(499 - 251));
        check.due("behind it", x.weak(0, 3, 500, 1), BAD);
        x.trim(0, 3, 64);
        check.due("all 64", x.weak(0, 3, 0, 64), Told.weak(expected(64)));
        x.trim(0, 3, 63);
        check.due("64 of 63", x.weak(0, 3, 0, 64), BAD);
        check.due("63 of 63", x.weak(0, 3, 0, 63), Told.weak(expected(63)));
    }
}
