import java.util.Random;

/** Random calls, right and wrong ones, are answered as the Model answers them. */
public final class ModelTest {
    private static final int OBJECTS = 6000, RANDOM_CALLS = 380;
    private static final int[] BLOCKS = {1, 1, 2, 3, 3, 4, 4, 5, 8, 16, 31, 64};
    private static final Check check = new Check("ModelTest");

    private final Random random;
    private final String name;
    private final RollingSync x = new RollingSync();
    private final Model model = new Model();
    /** How many different bytes are written: few of them make WEAKs that meet without STRONGs. */
    private final int letters;
    private final int fileCount;
    private int calls;

    private ModelTest(int seed) {
        random = new Random(seed);
        name = "object " + seed + ", call ";
        letters = 1 << (1 + random.nextInt(8));
        fileCount = 1 + random.nextInt(8);
    }

    public static void main(String[] args) {
        int[] most = new int[16];
        for (int seed = 0; seed < OBJECTS; seed++) {
            new ModelTest(seed).run(most);
        }
        // what the random calls never reach they do not test
        for (int what : new int[] {3, 4, 5, 6, 7, 8, 9, 10, 11, 13}) {
            check.holds("state(" + what + ") was above 0", most[what] > 0);
        }
        check.due("the largest k", most[12], 8);
        check.finish();
    }

    private void run(int[] most) {
        for (int i = 0; i < 30; i++) {
            fill();
        }
        while (calls < RANDOM_CALLS) {
            oneCall();
            for (int what = 0; what < 16; what++) {
                most[what] = Math.max(most[what], model.state(what));
            }
        }
        compareAll();
    }

    private void due(String call, long got, long want) {
        calls++;
        check.due(name + calls + ": " + call, got, want);
    }

    private void oneCall() {
        int kind = random.nextInt(100);
        if (kind < 25) {
            step();
        } else if (kind < 33) {
            begin();
        } else if (kind < 50) {
            fill();
        } else if (kind < 58) {
            lose();
        } else if (kind < 60) {
            due("cut()", x.cut(), model.cut());
        } else if (kind < 90) {
            ask();
        } else {
            wrong();
        }
    }

    private int end() {
        return random.nextInt(2);
    }

    private int file() {
        return random.nextInt(fileCount);
    }

    private long number() {
        long number = 0;
        for (int i = 0; i < 8; i++) {
            number = number << 8 | random.nextInt(letters);
        }
        return number;
    }

    private void fill() {
        int end = end();
        int file = file();
        int size = Math.max(0, model.size(end, file));
        switch (random.nextInt(10)) {
            case 0: case 1: case 2: write(end, file, size, number(), random.nextInt(9)); break;
            case 3: write(end, file, random.nextInt(size + 1), number(), random.nextInt(9)); break;
            case 4: case 5: again(end, file, random.nextInt(size + 1), random.nextInt(60)); break;
            case 6: again(end, file, random.nextInt(size + 1), random.nextInt(501)); break;
            case 7: trim(end, file, random.nextInt(size + 1)); break;
            case 8: due("same", x.same(end, file), model.same(end, file)); break;
            default: due("drop", x.drop(end, file), model.drop(end, file));
        }
    }

    private void write(int end, int file, int at, long bytes, int n) {
        due("write(" + end + ", " + file + ", " + at + ", " + bytes + ", " + n + ")",
            x.write(end, file, at, bytes, n), model.write(end, file, at, bytes, n));
    }

    private void again(int end, int file, int from, int n) {
        due("again(" + end + ", " + file + ", " + from + ", " + n + ")",
            x.again(end, file, from, n), model.again(end, file, from, n));
    }

    private void trim(int end, int file, int n) {
        due("trim(" + end + ", " + file + ", " + n + ")",
            x.trim(end, file, n), model.trim(end, file, n));
    }

    private void begin() {
        int source = end();
        int block = BLOCKS[random.nextInt(BLOCKS.length)];
        int k = random.nextInt(3) == 0 ? 1 + random.nextInt(8) : 1;
        int rule = random.nextInt(3);
        due("begin(" + source + ", " + block + ", " + k + ", " + rule + ")",
            x.begin(source, block, k, rule), model.begin(source, block, k, rule));
    }

    private void step() {
        int n = 1 + random.nextInt(random.nextInt(5) == 0 ? 200 : 12);
        due("step(" + n + ")", x.step(n), model.step(n));
    }

    private void lose() {
        int k = 1 + random.nextInt(random.nextBoolean() ? 50 : 5);
        due("lose(" + k + ")", x.lose(k), model.lose(k));
    }

    private void ask() {
        int end = end();
        int file = file();
        int i = random.nextInt(random.nextBoolean() ? 20 : 520);
        int what = random.nextInt(16);
        int n = 1 + random.nextInt(64);
        switch (random.nextInt(8)) {
            case 0: due("at", x.at(end, file, i), model.at(end, file, i)); break;
            case 1: due("size", x.size(end, file), model.size(end, file)); break;
            case 2: due("node " + what, x.node(end, what), model.node(end, what)); break;
            case 3: due("sent", x.sent(end), model.sent(end)); break;
            case 4: due("built " + i, x.built(i), model.built(i)); break;
            case 5: due("sums " + i, x.sums(i, what & 1), model.sums(i, what & 1)); break;
            case 6: due("weak", x.weak(end, file, i, n), model.weak(end, file, i, n)); break;
            default: due("state(" + what + ")", x.state(what), model.state(what));
        }
    }

    /** A number that may be any, most often one near the edges of what is right. */
    private int odd() {
        int[] edges = {-1, 0, 1, 2, 3, 7, 8, 9, 15, 16, 50, 51, 64, 65, 200, 201, 499, 500, 501,
            Integer.MIN_VALUE, Integer.MAX_VALUE};
        return random.nextInt(10) == 0 ? random.nextInt() : edges[random.nextInt(edges.length)];
    }

    private void wrong() {
        int a = random.nextBoolean() ? end() : odd();
        int b = random.nextBoolean() ? file() : odd();
        int c = odd();
        int d = odd();
        String of = " of " + a + ", " + b + ", " + c + ", " + d;
        switch (random.nextInt(17)) {
            case 0: due("write" + of, x.write(a, b, c, c, d), model.write(a, b, c, c, d)); break;
            case 1: due("again" + of, x.again(a, b, c, d), model.again(a, b, c, d)); break;
            case 2: due("trim" + of, x.trim(a, b, c), model.trim(a, b, c)); break;
            case 3: due("drop" + of, x.drop(a, b), model.drop(a, b)); break;
            case 4: due("same" + of, x.same(a, b), model.same(a, b)); break;
            case 5: due("at" + of, x.at(a, b, c), model.at(a, b, c)); break;
            case 6: due("size" + of, x.size(a, b), model.size(a, b)); break;
            case 7: due("node" + of, x.node(a, c), model.node(a, c)); break;
            case 8: due("begin" + of, x.begin(a, b, c, d), model.begin(a, b, c, d)); break;
            case 9: due("step" + of, x.step(c), model.step(c)); break;
            case 10: due("lose" + of, x.lose(c), model.lose(c)); break;
            case 11: due("state" + of, x.state(c), model.state(c)); break;
            case 12: due("sent" + of, x.sent(c), model.sent(c)); break;
            case 13: due("built" + of, x.built(c), model.built(c)); break;
            case 14: due("sums" + of, x.sums(b, c), model.sums(b, c)); break;
            case 15: due("sums" + of, x.sums(c, a), model.sums(c, a)); break;
            default: due("weak" + of, x.weak(a, b, c, d), model.weak(a, b, c, d));
        }
    }

    /** All that is told of the state, but for most of the bytes, which the digests tell. */
    private void compareAll() {
        for (int what = 0; what < 16; what++) {
            due("at last state(" + what + ")", x.state(what), model.state(what));
        }
        for (int end = 0; end < 2; end++) {
            due("at last sent", x.sent(end), model.sent(end));
            for (int n = 1; n < 16; n++) {
                due("at last node " + n, x.node(end, n), model.node(end, n));
            }
            for (int file = 0; file < 8; file++) {
                due("at last size", x.size(end, file), model.size(end, file));
            }
        }
        for (int i = 0; i < 15; i++) {
            due("at last built " + i, x.built(i), model.built(i));
            due("at last weak " + i, x.sums(i, 0), model.sums(i, 0));
            due("at last strong " + i, x.sums(i, 1), model.sums(i, 1));
        }
    }
}
