/** Promise 12, and what STEPS do when a MESSAGE is LOST. */
public final class LossTest {
    private static final int BAD = Told.BAD, NO = Told.NO, FULL = Told.FULL;
    private static final int ASKED_STEPS = Told.ASKED_STEPS;
    private static final Check check = new Check("LossTest");

    private LossTest() {
    }

    public static void main(String[] args) {
        loseRefuses();
        loseCountsWhatIsNotSentYet();
        eachKindIsLost();
        twoStepsPass();
        aMessageMayBeLostAgain();
        aLostAskWaitsNoMore();
        nodesAreSentAgainAsTheyWere();
        sumsAreSentAgainAsTheyWere();
        goneIsSentAgainAsItWas();
        bytesAreSentAgainAsTheyWere();
        blocksAreSentAgainAsTheyWere();
        endIsSentAgainAsItWas();
        lostAgainItIsAsAtFirst();
        theLastOneIsLost();
        lossesOutliveARun();
        aCutRunSendsNothingAgain();
        check.finish();
    }

    private static void loseRefuses() {
        check.sentence("lose: BAD: k, or it is told already. FULL: eight are");
        RollingSync x = new RollingSync();
        check.due("k 0", x.lose(0), BAD);
        check.due("k 51", x.lose(51), BAD);
        check.due("k -1", x.lose(-1), BAD);
        check.due("k far below", x.lose(Integer.MIN_VALUE), BAD);
        check.due("k far above", x.lose(Integer.MAX_VALUE), BAD);
        check.due("k 65", x.lose(65), BAD);
        check.due("the largest", x.lose(50), 1);
        check.due("told already", x.lose(50), BAD);
        for (int k = 1; k <= 7; k++) {
            check.due("told", x.lose(k), k + 1);
        }
        check.due("eight are", x.lose(8), FULL);
        check.due("BAD is before FULL", x.lose(7), BAD);
        check.due("BAD k is before FULL", x.lose(51), BAD);
    }

    private static void loseCountsWhatIsNotSentYet() {
        check.sentence("how many such are told and were not sent yet");
        RollingSync x = new RollingSync();
        for (int k = 1; k <= 8; k++) {
            x.lose(2 * k);
        }
        x.begin(0, 4, 1, 0);
        x.step(1);
        check.due("the second is the first by now", x.lose(1), BAD);
        check.due("eight still", x.lose(2), FULL);
        x.step(1);
        check.states("LOST", x, 2, 2, 3, 1, 14, 1);
        check.due("seven were not sent yet", x.lose(1), 8);
        check.due("eight again", x.lose(50), FULL);
        RollingSync y = new RollingSync();
        y.lose(2);
        y.begin(0, 4, 1, 0);
        y.step(2);
        check.due("none is told any more", y.lose(2), 1);
    }

    /** A RUN whose next MESSAGE is of a kind. */
    private static RollingSync justBefore(int kind) {
        RollingSync x = new RollingSync();
        if (kind != 3) {
            Told.put(x, 0, 7, Told.bytes("xyABCDz"));
        }
        Told.put(x, 1, 7, Told.bytes("ABCD"));
        x.begin(0, 4, 2, 1);
        int[] steps = {0, 1, ASKED_STEPS, ASKED_STEPS + 1, ASKED_STEPS + 1, ASKED_STEPS + 2,
            ASKED_STEPS + 4, ASKED_STEPS + 5};
        for (int i = 0; i < steps[kind]; i++) {
            x.step(1);
        }
        return x;
    }

    private static void eachKindIsLost() {
        check.sentence("or it is LOST: then two STEPS pass in which nothing is sent");
        int[] sizes = {2, 10, 6 + 6, 1, 2 + 2, 4, 11, 1};
        for (int kind = 0; kind < 8; kind++) {
            for (int losses = 0; losses <= 3; losses++) {
                isLost(kind, losses, sizes[kind]);
            }
        }
    }

    private static void isLost(int kind, int losses, int size) {
        RollingSync x = justBefore(kind);
        int by = kind == 0 || kind == 2 || kind == 7 ? 1 : 0;
        int steps = x.state(1);
        long sent = x.sent(by);
        long others = x.sent(1 - by);
        long files = x.node(1, 1);
        String what = "kind " + kind + ", LOST ";
        for (int i = 1; i <= losses; i++) {
            x.lose(1);
            for (int silent = 0; silent < 3; silent++) {
                check.due(what + i, x.step(1), 1);
                steps++;
                int messages = steps - 2 * (i - 1) - silent;
                check.states(what + i, x, 0, 1, 1, steps, 2, messages, 3, i, 14, kind);
                check.due(what + i + ": sent", x.sent(by), sent + (long) i * size);
                check.due(what + i + ": its end does nothing", x.node(1, 1), files);
            }
        }
        what += losses + " times";
        check.due(what, x.step(1), 1);
        check.states(what, x, 1, steps + 1, 2, steps + 1 - 2 * losses, 3, losses);
        check.due(what + ": sent", x.sent(by), sent + (losses + 1L) * size);
        check.due(what + ": by the other end", x.sent(1 - by), others);
        RollingSync y = justBefore(kind);
        y.step(1);
        check.alike(what + ": then it comes", Tells.rest(x), Tells.rest(y));
        x.step(200);
        y.step(200);
        check.alike(what + ": at last", Tells.rest(x), Tells.rest(y));
    }

    private static void twoStepsPass() {
        check.sentence("then two STEPS pass; in the next one it is sent again");
        RollingSync x = new RollingSync();
        x.lose(2);
        x.begin(0, 4, 1, 0);
        x.step(2);
        for (int i = 0; i < 3; i++) {
            check.states("STEP " + (2 + i), x, 0, 1, 1, 2 + i, 2, 2, 3, 1, 14, 1);
            check.due("sent once", x.sent(0), 10);
            x.step(1);
        }
        check.states("sent again", x, 0, 2, 1, 5, 2, 3, 3, 1, 14, 1);
        check.due("sent twice", x.sent(0), 20);
        check.due("ASK once", x.sent(1), 2);

        RollingSync y = new RollingSync();
        y.lose(1);
        y.begin(0, 4, 1, 0);
        check.due("STEPS in which nothing is sent count", y.step(3), 3);
        check.due("till it is OVER", y.step(200), 2);
    }

    private static void aMessageMayBeLostAgain() {
        check.sentence("it may be LOST again");
        RollingSync x = new RollingSync();
        x.lose(1);
        x.lose(2);
        x.lose(3);
        x.begin(0, 4, 1, 0);
        check.due("three times two STEPS more", x.step(200), 3 * 3 + 2);
        check.states("all", x, 0, 2, 1, 11, 2, 5, 3, 3);
        check.due("ASKs", x.sent(1), 8);
    }

    private static void aLostAskWaitsNoMore() {
        check.sentence("ASK n: .. which waits no more");
        RollingSync x = new RollingSync();
        x.lose(1);
        x.begin(0, 4, 1, 0);
        check.states("begun", x, 15, 1);
        x.step(1);
        check.states("LOST", x, 14, 0, 15, 0);
        check.due("and sent again", x.step(200), 4);
    }

    private static void nodesAreSentAgainAsTheyWere() {
        check.sentence("sent again just as it was: NODE");
        RollingSync x = new RollingSync();
        x.lose(2);
        x.begin(0, 4, 1, 0);
        x.step(2);
        Told.put(x, 0, 0, 1);
        check.due("NODE 1 as it was", x.step(200), 3);
        check.states("alike as it was told", x, 0, 2, 4, 0);

        RollingSync y = new RollingSync();
        y.lose(2);
        y.begin(0, 4, 1, 0);
        y.step(2);
        Told.put(y, 1, 0, 1);
        y.step(3);
        check.states("TARGET's own as it is when it comes", y, 0, 1, 15, 2);
    }

    /** A RUN in which file 7 alone is TO DO, of which the n-th MESSAGE behind will be LOST. */
    private static RollingSync withLoss(int n, int[] ofSource, int[] ofTarget) {
        RollingSync x = new RollingSync();
        if (ofSource != null) {
            Told.put(x, 0, 7, ofSource);
        }
        if (ofTarget != null) {
            Told.put(x, 1, 7, ofTarget);
        }
        x.lose(ASKED_STEPS + n);
        x.begin(0, 4, 2, 1);
        x.step(ASKED_STEPS + n);
        check.states("LOST", x, 3, 1, 0, 1);
        return x;
    }

    private static void sumsAreSentAgainAsTheyWere() {
        check.sentence("sent again just as it was: SUMS");
        RollingSync x = withLoss(1, new int[] {9}, new int[] {1, 2, 3, 4, 5, 6, 7, 8});
        check.states("SUMS were sent", x, 12, 2, 14, 2);
        check.due("but have not come", x.sums(0, 0), BAD);
        x.drop(1, 7);
        x.step(2);
        check.due("nor yet", x.sums(0, 0), BAD);
        x.step(1);
        check.due("WEAK as it was", x.sums(1, 0), Told.weak(5, 6, 7, 8));
        check.due("STRONG as it was", x.sums(1, 1), Told.strong(2, 5, 6, 7, 8));
        check.due("their size twice", x.sent(1), 14 + 2 * (6 + 2 * 6));

        RollingSync y = new RollingSync();
        Told.put(y, 0, 6, 1, 2, 3);
        Told.put(y, 0, 7, 1, 2, 3);
        y.begin(0, 4, 1, 0);
        y.step(ASKED_STEPS + 4);
        check.states("BUILT", y, 13, 3, 14, 7);
        y.lose(1);
        y.step(1);
        check.states("empty when SUMS are sent, LOST ones, too", y, 3, 1, 13, 0, 14, 2);
    }

    private static void goneIsSentAgainAsItWas() {
        check.sentence("sent again just as it was: GONE");
        RollingSync x = withLoss(2, null, new int[] {1, 2});
        check.states("GONE", x, 14, 3, 4, 1);
        Told.put(x, 0, 7, 5);
        check.due("not yet", x.size(1, 7), 2);
        check.due("till OVER", x.step(200), 3);
        check.due("GONE", x.size(1, 7), NO);
        check.due("its size twice", x.sent(0), 70 + 2);
    }

    private static void bytesAreSentAgainAsTheyWere() {
        check.sentence("sent again just as it was: BYTES");
        RollingSync x = withLoss(2, new int[] {1, 2, 3}, null);
        check.states("BYTES", x, 9, 0, 13, 0, 14, 4);
        x.write(0, 7, 0, 77, 1);
        x.step(3);
        check.states("BYTES", x, 9, 3, 13, 3, 14, 4);
        check.due("as they were", x.built(0), 1);
        check.due("their size twice", x.sent(0), 70 + 10);
        x.step(1);
        check.states("which is another DIGEST", x, 7, 1);

        int[] both = {5, 5, 5, 1, 3, 3, 7};
        RollingSync y = withLoss(2, both, new int[] {1, 3, 3, 7});
        check.states("a MEET", y, 10, 1, 9, 0);
        y.step(3);
        check.states("LOOKs are not done again", y, 10, 1, 9, 3);
    }

    private static void blocksAreSentAgainAsTheyWere() {
        check.sentence("sent again just as it was: BLOCK");
        RollingSync x = withLoss(2, new int[] {1, 2, 3, 4, 9}, new int[] {1, 2, 3, 4});
        check.states("BLOCK", x, 8, 0, 10, 1, 13, 0, 14, 5);
        x.write(0, 7, 0, 77, 1);
        x.write(1, 7, 3, 0x2C2DL, 2);
        x.step(3);
        check.states("BLOCK", x, 8, 1, 10, 1, 13, 4, 14, 5);
        check.due("of TARGET's file as it is when it comes", x.built(3), 0x2C);
        check.due("its size twice", x.sent(0), 70 + 8);
    }

    private static void endIsSentAgainAsItWas() {
        check.sentence("sent again just as it was: END, ANSWER");
        RollingSync x = withLoss(3, new int[] {1, 2, 3}, null);
        check.states("END", x, 5, 0, 14, 6);
        x.write(0, 7, 0, 77, 1);
        x.step(3);
        check.states("END", x, 5, 1, 7, 0, 14, 6);
        check.holds("in place as it was told", Told.has(x, 1, 7, 1, 2, 3));
        check.due("its size twice", x.sent(0), 70 + 5 + 22);
        x.lose(1);
        x.step(1);
        check.states("ANSWER", x, 0, 1, 3, 2, 14, 7);
        check.due("till OVER", x.step(200), 3);
        check.due("ANSWER's size twice", x.sent(1), 14 + 6 + 2);
    }

    private static void lostAgainItIsAsAtFirst() {
        check.sentence("(just as it was; it may be LOST again)");
        RollingSync x = withLoss(2, new int[] {1, 2, 3}, null);
        for (int i = 0; i < 3; i++) {
            x.write(0, 7, 0, 70 + i, 1);
            x.lose(1);
            x.step(3);
            check.states("LOST again", x, 2, ASKED_STEPS + 3 + i, 3, 2 + i, 13, 0, 14, 4);
        }
        x.drop(0, 7);
        x.step(3);
        check.states("it came", x, 9, 3, 13, 3, 14, 4);
        check.due("as it was at first", x.built(0), 1);
        check.due("its size each time", x.sent(0), 70 + 5 * 5);
    }

    private static void theLastOneIsLost() {
        check.sentence("the RUN is OVER (within the STEP whose MESSAGE came last)");
        RollingSync x = new RollingSync();
        Told.put(x, 1, 7, 1);
        x.begin(0, 4, 1, 2);
        x.step(ASKED_STEPS + 1);
        x.lose(1);
        for (int i = 0; i < 3; i++) {
            x.step(1);
            check.states("GONE, LOST", x, 0, 1, 4, 1, 14, 3);
            check.due("by RULE 2 it is there", x.size(1, 7), 1);
        }
        check.due("it comes", x.step(200), 1);
        check.states("OVER", x, 0, 2, 4, 0);
        check.due("it is none", x.size(1, 7), NO);

        RollingSync y = withLoss(4, new int[] {1, 2, 3}, null);
        check.states("ANSWER, LOST", y, 0, 1, 5, 1, 13, 3, 14, 7);
        y.step(2);
        check.states("BUILT still", y, 0, 1, 13, 3);
        y.step(1);
        check.states("OVER", y, 0, 2, 13, 0);
    }

    private static void lossesOutliveARun() {
        check.sentence("(by this RUN, or the next ones)");
        RollingSync x = new RollingSync();
        x.lose(4);
        x.begin(0, 4, 1, 0);
        x.step(1);
        x.cut();
        x.begin(0, 4, 1, 0);
        check.due("a RUN without a loss", x.step(200), 2);
        x.begin(1, 4, 1, 0);
        check.due("the fourth is its first", x.step(200), 5);
        check.states("LOST", x, 2, 3, 3, 1);
        x.begin(1, 4, 1, 0);
        check.due("no more", x.step(200), 2);
        check.states("LOST", x, 2, 2, 3, 0);
    }

    private static void aCutRunSendsNothingAgain() {
        check.sentence("A RUN that GOES is CUT");
        RollingSync x = new RollingSync();
        x.lose(2);
        x.begin(0, 4, 1, 0);
        x.step(3);
        x.cut();
        check.states("CUT", x, 0, 3, 1, 3, 2, 2, 3, 1, 14, 1);
        x.begin(0, 4, 1, 0);
        x.step(1);
        check.states("ASK at once", x, 1, 1, 2, 1, 14, 0);
        check.due("and NODE", x.step(200), 1);
    }
}
