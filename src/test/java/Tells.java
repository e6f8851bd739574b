/** What an object tells, as text: two objects of one state tell the same, now and later. */
final class Tells {
    private static final int ROWS_MOST = 60;

    private Tells() {
    }

    /** The files (by their sizes and digests), the RUN, what was sent, what is BUILT, the sums. */
    static String all(RollingSync x) {
        StringBuilder text = new StringBuilder();
        for (int what = 1; what < 4; what++) {
            row(text, "state(" + what + ")", x.state(what));
        }
        row(text, "sent(0)", x.sent(0));
        row(text, "sent(1)", x.sent(1));
        return text + rest(x);
    }

    /** What does not tell how many STEPS and MESSAGES it took to come here. */
    static String rest(RollingSync x) {
        StringBuilder text = new StringBuilder();
        row(text, "state(0)", x.state(0));
        for (int what = 4; what < 16; what++) {
            row(text, "state(" + what + ")", x.state(what));
        }
        text.append(files(x));
        for (int i = 0; i < ROWS_MOST && x.built(i) >= 0; i++) {
            row(text, "built(" + i + ")", x.built(i));
        }
        for (int i = 0; i < ROWS_MOST && x.sums(i, 0) >= 0; i++) {
            row(text, "sums(" + i + ", 0)", x.sums(i, 0));
            row(text, "sums(" + i + ", 1)", x.sums(i, 1));
        }
        return text.toString();
    }

    static String files(RollingSync x) {
        StringBuilder text = new StringBuilder();
        for (int end = 0; end < 2; end++) {
            for (int file = 0; file < 8; file++) {
                row(text, "size(" + end + ", " + file + ")", x.size(end, file));
            }
            for (int n = 1; n < 16; n++) {
                row(text, "node(" + end + ", " + n + ")", x.node(end, n));
            }
        }
        return text.toString();
    }

    /** How the RUN that GOES, and then another one, go on, and how many losses are told still. */
    static String later(RollingSync x) {
        StringBuilder text = new StringBuilder();
        goOn(text, x);
        row(text, "begin", x.begin(1, 2, 1, 2));
        goOn(text, x);
        row(text, "lose(49)", x.lose(49));
        row(text, "lose(50)", x.lose(50));
        return text + all(x);
    }

    private static void goOn(StringBuilder text, RollingSync x) {
        for (int i = 0; i < ROWS_MOST && x.state(0) == 1; i++) {
            row(text, "step(3)", x.step(3));
            row(text, "messages", x.state(2));
            row(text, "LOST ones", x.state(3));
        }
    }

    private static void row(StringBuilder text, String what, long answer) {
        text.append(what).append(' ').append(answer).append('\n');
    }
}
