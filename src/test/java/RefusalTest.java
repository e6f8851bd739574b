import java.util.LinkedHashMap;
import java.util.Map;
import java.util.function.Consumer;
import java.util.function.ToLongFunction;

/**
 * Each BAD, NO and FULL of the promises 2 to 18: the answer, and that the call has changed nothing.
 * For the latter two objects get the same calls, but for the refused one, and tell the same, then
 * and later on.
 */
public final class RefusalTest {
    private static final int BAD = Told.BAD, NO = Told.NO, FULL = Told.FULL;
    private static final int LEAST = Integer.MIN_VALUE, GREATEST = Integer.MAX_VALUE;
    /** Files of each end in each setting: of 500 bytes, empty, of 5 bytes, and one that is none. */
    private static final int WHOLE = 0, EMPTY = 1, FIVE = 2, NONE = 3;
    private static final int[] NO_ENDS = {LEAST, -1, 2, GREATEST};
    private static final int[] NO_FILES = {LEAST, -1, 8, GREATEST};
    private static final Map<String, Consumer<RollingSync>> SETTINGS = settings();
    private static final Check check = new Check("RefusalTest");

    private RefusalTest() {
    }

    public static void main(String[] args) {
        settingsAreAsMeant();
        noSuchEnd();
        noSuchFile();
        write();
        again();
        trim();
        drop();
        at();
        size();
        node();
        begin();
        step();
        lose();
        cut();
        state();
        sent();
        built();
        sums();
        weak();
        check.finish();
    }

    private static Map<String, Consumer<RollingSync>> settings() {
        Map<String, Consumer<RollingSync>> settings = new LinkedHashMap<>();
        settings.put("no RUN", RefusalTest::files);
        settings.put("GOES", RefusalTest::goes);
        settings.put("GOES, LOST", RefusalTest::goesWithLosses);
        settings.put("OVER", RefusalTest::over);
        settings.put("CUT", RefusalTest::cutShort);
        return settings;
    }

    private static void files(RollingSync x) {
        for (int end = 0; end < 2; end++) {
            x.write(end, WHOLE, 0, 0x77, 1);
            x.again(end, WHOLE, 0, 499);
            x.write(end, EMPTY, 0, 0, 0);
            x.write(end, FIVE, 0, 0x0102030405L, 5);
        }
        Told.put(x, 0, 7, Told.count(0, 30));
        Told.put(x, 1, 7, Told.count(10, 13));
    }

    /** SUMS came, and BYTES and a BLOCK are BUILT. */
    private static void goes(RollingSync x) {
        files(x);
        x.begin(0, 4, 2, 1);
        x.step(17);
    }

    /** The latest MESSAGE was LOST, a STEP passed, and eight more losses are told. */
    private static void goesWithLosses(RollingSync x) {
        goes(x);
        x.lose(1);
        x.step(2);
        for (int k = 1; k <= 7; k++) {
            x.lose(2 * k);
        }
        x.lose(50);
    }

    private static void over(RollingSync x) {
        goes(x);
        x.step(200);
        x.lose(3);
    }

    private static void cutShort(RollingSync x) {
        goes(x);
        x.cut();
        x.lose(3);
    }

    private static RollingSync set(String setting) {
        RollingSync x = new RollingSync();
        SETTINGS.get(setting).accept(x);
        return x;
    }

    private static void settingsAreAsMeant() {
        check.sentence("the settings of this test");
        check.states("no RUN", set("no RUN"), 0, 0);
        check.states("GOES", set("GOES"), 0, 1, 3, 0, 8, 1, 9, 10, 13, 14);
        check.states("LOST", set("GOES, LOST"), 0, 1, 1, 19, 2, 18, 3, 1, 13, 14);
        check.states("OVER", set("OVER"), 0, 2);
        check.states("CUT", set("CUT"), 0, 3, 13, 0);
    }

    private static void refusedIn(
            String setting, String what, ToLongFunction<RollingSync> call, long want) {
        RollingSync asked = set(setting);
        RollingSync left = set(setting);
        String name = setting + ": " + what;
        check.due(name, call.applyAsLong(asked), want);
        check.alike(name + " changes nothing", Tells.all(asked), Tells.all(left));
        check.alike(name + " changes nothing later", Tells.later(asked), Tells.later(left));
    }

    private static void refused(String what, ToLongFunction<RollingSync> call, long want) {
        for (String setting : SETTINGS.keySet()) {
            refusedIn(setting, what, call, want);
        }
    }

    private static void bad(String what, ToLongFunction<RollingSync> call) {
        refused(what, call, BAD);
    }

    private static void noSuchEnd() {
        check.sentence("BAD: no such end");
        for (int end : NO_ENDS) {
            String of = " of end " + end;
            bad("write" + of, x -> x.write(end, FIVE, 0, 9, 1));
            bad("again" + of, x -> x.again(end, FIVE, 0, 1));
            bad("trim" + of, x -> x.trim(end, FIVE, 1));
            bad("drop" + of, x -> x.drop(end, FIVE));
            bad("same" + of, x -> x.same(end, FIVE));
            bad("at" + of, x -> x.at(end, FIVE, 0));
            bad("size" + of, x -> x.size(end, FIVE));
            bad("size of none" + of, x -> x.size(end, NONE));
            bad("weak" + of, x -> x.weak(end, FIVE, 0, 1));
            bad("sent" + of, x -> x.sent(end));
            refused("node" + of, x -> x.node(end, 1), 0);
        }
    }

    private static void noSuchFile() {
        check.sentence("BAD: no such file");
        for (int end = 0; end < 2; end++) {
            for (int file : NO_FILES) {
                int e = end;
                String of = " of end " + end + ", file " + file;
                bad("write" + of, x -> x.write(e, file, 0, 9, 1));
                bad("write of nothing" + of, x -> x.write(e, file, 0, 9, 0));
                bad("again" + of, x -> x.again(e, file, 0, 1));
                bad("trim" + of, x -> x.trim(e, file, 0));
                bad("drop" + of, x -> x.drop(e, file));
                bad("same" + of, x -> x.same(e, file));
                bad("at" + of, x -> x.at(e, file, 0));
                bad("size" + of, x -> x.size(e, file));
                bad("weak" + of, x -> x.weak(e, file, 0, 1));
            }
        }
    }

    private static void write() {
        check.sentence("write: BAD: no such n");
        for (int n : new int[] {LEAST, -1, 9, GREATEST}) {
            bad("n " + n, x -> x.write(0, FIVE, 0, 9, n));
            bad("n " + n + ", none", x -> x.write(0, NONE, 0, 9, n));
        }
        check.sentence("write: BAD: no such place");
        for (int at : new int[] {LEAST, -1, 6, 499, 500, 501, GREATEST - 8, GREATEST}) {
            bad("place " + at + " of 5", x -> x.write(1, FIVE, at, 9, 1));
            bad("place " + at + " of 5, n 0", x -> x.write(1, FIVE, at, 9, 0));
            bad("place " + at + " of 5, n 8", x -> x.write(1, FIVE, at, 9, 8));
        }
        for (int at : new int[] {LEAST, -1, 1, GREATEST}) {
            bad("place " + at + " of an empty file", x -> x.write(0, EMPTY, at, 9, 1));
            bad("place " + at + " of none", x -> x.write(0, NONE, at, 9, 1));
            bad("place " + at + " of none, n 0", x -> x.write(0, NONE, at, 9, 0));
        }
        check.sentence("write: FULL: more than 500");
        refused("one behind 500", x -> x.write(0, WHOLE, 500, 9, 1), FULL);
        refused("eight behind 500", x -> x.write(1, WHOLE, 500, 9, 8), FULL);
        refused("two at the last place", x -> x.write(0, WHOLE, 499, 9, 2), FULL);
        refused("eight at place 493", x -> x.write(1, WHOLE, 493, 9, 8), FULL);
        check.sentence("write: of several the first one here");
        bad("no such place, more than 500", x -> x.write(0, WHOLE, 501, 9, 1));
        bad("no such n, more than 500", x -> x.write(0, WHOLE, 500, 9, 9));
        bad("no such end, more than 500", x -> x.write(2, WHOLE, 500, 9, 8));
        bad("no such file, more than 500", x -> x.write(0, 8, 500, 9, 8));
    }

    private static void again() {
        check.sentence("again: BAD: it is none");
        bad("none", x -> x.again(0, NONE, 0, 1));
        bad("none, n 0", x -> x.again(1, NONE, 0, 0));
        check.sentence("again: BAD: the place is none of its");
        for (int from : new int[] {LEAST, -1, 5, 6, 500, GREATEST}) {
            bad("place " + from + " of 5", x -> x.again(0, FIVE, from, 1));
            bad("place " + from + " of 5, n 0", x -> x.again(1, FIVE, from, 0));
        }
        bad("place 0 of an empty file", x -> x.again(0, EMPTY, 0, 1));
        bad("place 0 of an empty file, n 0", x -> x.again(1, EMPTY, 0, 0));
        check.sentence("again: BAD: n is not 0 .. 500");
        for (int n : new int[] {LEAST, -1, 501, GREATEST}) {
            bad("n " + n, x -> x.again(0, FIVE, 0, n));
            bad("n " + n + " at the last place", x -> x.again(1, FIVE, 4, n));
        }
        check.sentence("again: FULL");
        refused("501 of 500", x -> x.again(0, FIVE, 0, 496), FULL);
        refused("505 of 500", x -> x.again(1, FIVE, 4, 500), FULL);
        refused("one behind 500", x -> x.again(0, WHOLE, 0, 1), FULL);
        refused("500 behind 500", x -> x.again(1, WHOLE, 499, 500), FULL);
        check.sentence("again: of several the first one here");
        bad("no such place, more than 500", x -> x.again(0, WHOLE, 500, 1));
        bad("no such n, more than 500", x -> x.again(0, WHOLE, 0, 501));
        bad("no such file, more than 500", x -> x.again(0, 8, 0, 500));
    }

    private static void trim() {
        check.sentence("trim: BAD: it is none");
        bad("none", x -> x.trim(0, NONE, 0));
        check.sentence("trim: BAD: n is not 0 .. its size");
        for (int n : new int[] {LEAST, -1, 6, 500, GREATEST}) {
            bad("n " + n + " of 5", x -> x.trim(1, FIVE, n));
        }
        bad("n 1 of an empty file", x -> x.trim(0, EMPTY, 1));
        bad("n -1 of an empty file", x -> x.trim(0, EMPTY, -1));
        bad("n 501 of 500", x -> x.trim(0, WHOLE, 501));
    }

    private static void drop() {
        check.sentence("drop: BAD: it is none");
        bad("none", x -> x.drop(0, NONE));
        bad("none of end 1", x -> x.drop(1, NONE));
    }

    private static void at() {
        check.sentence("at: BAD: no such byte");
        for (int i : new int[] {LEAST, -1, 5, 500, GREATEST}) {
            bad("byte " + i + " of 5", x -> x.at(1, FIVE, i));
        }
        bad("byte 0 of an empty file", x -> x.at(0, EMPTY, 0));
        bad("byte 0 of none", x -> x.at(0, NONE, 0));
        bad("byte 500 of 500", x -> x.at(1, WHOLE, 500));
    }

    private static void size() {
        check.sentence("size: NO: it is none");
        refused("none", x -> x.size(0, NONE), NO);
        refused("none of end 1", x -> x.size(1, NONE), NO);
    }

    private static void node() {
        check.sentence("node: 0: no such");
        for (int n : new int[] {LEAST, -1, 0, 16, GREATEST}) {
            refused("NODE " + n, x -> x.node(0, n), 0);
            refused("NODE " + n + " of end 1", x -> x.node(1, n), 0);
        }
    }

    private static void begin() {
        check.sentence("begin: BAD: source is not 0, 1");
        for (int source : NO_ENDS) {
            bad("source " + source, x -> x.begin(source, 4, 2, 1));
        }
        check.sentence("begin: BAD: block not 1 .. 64");
        for (int block : new int[] {LEAST, -1, 0, 65, GREATEST}) {
            bad("block " + block, x -> x.begin(0, block, 2, 1));
        }
        check.sentence("begin: BAD: k not 1 .. 8");
        for (int k : new int[] {LEAST, -1, 0, 9, GREATEST}) {
            bad("k " + k, x -> x.begin(1, 4, k, 1));
        }
        check.sentence("begin: BAD: rule not 0 .. 2");
        for (int rule : new int[] {LEAST, -1, 3, GREATEST}) {
            bad("rule " + rule, x -> x.begin(1, 4, 2, rule));
        }
        check.sentence("begin: NO: one GOES");
        for (String setting : new String[] {"GOES", "GOES, LOST"}) {
            refusedIn(setting, "as the one that GOES", x -> x.begin(0, 4, 2, 1), NO);
            refusedIn(setting, "another", x -> x.begin(1, 64, 8, 2), NO);
        }
    }

    private static void step() {
        check.sentence("step: BAD: n");
        for (int n : new int[] {LEAST, -1, 0, 201, GREATEST}) {
            bad("n " + n, x -> x.step(n));
        }
        check.sentence("step: NO: no RUN GOES");
        for (String setting : new String[] {"no RUN", "OVER", "CUT"}) {
            refusedIn(setting, "n 1", x -> x.step(1), NO);
            refusedIn(setting, "n 200", x -> x.step(200), NO);
        }
    }

    private static void lose() {
        check.sentence("lose: BAD: k");
        for (int k : new int[] {LEAST, -1, 0, 51, 64, 65, GREATEST}) {
            bad("k " + k, x -> x.lose(k));
        }
        check.sentence("lose: BAD: it is told already");
        refusedIn("OVER", "k 3", x -> x.lose(3), BAD);
        refusedIn("CUT", "k 3", x -> x.lose(3), BAD);
        check.sentence("lose: FULL: eight are");
        for (int k : new int[] {1, 3, 13, 15, 49}) {
            refusedIn("GOES, LOST", "k " + k, x -> x.lose(k), FULL);
        }
        check.sentence("lose: of several the first one here");
        for (int k : new int[] {2, 4, 6, 8, 10, 12, 14, 50}) {
            refusedIn("GOES, LOST", "told already, eight are: k " + k, x -> x.lose(k), BAD);
        }
    }

    private static void cut() {
        check.sentence("cut: NO: none GOES");
        for (String setting : new String[] {"no RUN", "OVER", "CUT"}) {
            refusedIn(setting, "cut", x -> x.cut(), NO);
        }
    }

    private static void state() {
        check.sentence("state: BAD: another what");
        for (int what : new int[] {LEAST, -1, 16, GREATEST}) {
            bad("what " + what, x -> x.state(what));
        }
    }

    private static void sent() {
        check.sentence("sent: BAD: no such end");
        check.due("BAD, of a new object", new RollingSync().sent(2), BAD);
        check.due("and -1", new RollingSync().sent(-1), BAD);
    }

    private static void built() {
        check.sentence("built: BAD: none such");
        for (int i : new int[] {LEAST, -1, 14, 500, GREATEST}) {
            bad("byte " + i, x -> x.built(i));
        }
        for (String setting : new String[] {"no RUN", "OVER", "CUT"}) {
            refusedIn(setting, "byte 0", x -> x.built(0), BAD);
        }
    }

    private static void sums() {
        check.sentence("sums: BAD: none such");
        for (int i : new int[] {LEAST, -1, 3, 500, GREATEST}) {
            bad("WEAK of block " + i, x -> x.sums(i, 0));
            bad("STRONG of block " + i, x -> x.sums(i, 1));
        }
        refusedIn("no RUN", "WEAK of block 0", x -> x.sums(0, 0), BAD);
        refusedIn("no RUN", "STRONG of block 0", x -> x.sums(0, 1), BAD);
        check.sentence("sums: BAD: what");
        for (int what : new int[] {LEAST, -1, 2, GREATEST}) {
            bad("what " + what, x -> x.sums(0, what));
        }
    }

    private static void weak() {
        check.sentence("weak: BAD: no such bytes");
        for (int n : new int[] {LEAST, -1, 0, 65, GREATEST}) {
            bad("n " + n + " of 500", x -> x.weak(0, WHOLE, 100, n));
        }
        for (int at : new int[] {LEAST, -1, 5, 6, GREATEST}) {
            bad("1 from place " + at + " of 5", x -> x.weak(1, FIVE, at, 1));
            bad("64 from place " + at + " of 5", x -> x.weak(1, FIVE, at, 64));
        }
        bad("6 of 5", x -> x.weak(0, FIVE, 0, 6));
        bad("2 from the last place", x -> x.weak(0, FIVE, 4, 2));
        bad("64 from place 437 of 500", x -> x.weak(0, WHOLE, 437, 64));
        bad("1 of an empty file", x -> x.weak(0, EMPTY, 0, 1));
        bad("1 of none", x -> x.weak(0, NONE, 0, 1));
    }
}
