/** Promise 12, and what STEPS do when a MESSAGE is LOST. */
public final class LossTest {
    private static final int BAD = Told.BAD, NO = Told.NO, FULL = Told.FULL;
    /** What is sent till one file alone is TO DO: seven times ASK and NODE. */
    private static final int ASKED_STEPS = 14;
    private static final Check check = new Check("LossTest");

    private LossTest() {
    }

    public static void main(String[] args) {
        loseRefuses();
        loseCountsWhatIsNotSentYet();
        twoStepsPass();
        aMessageMayBeLostAgain();
        aLostAskWaitsNoMore();
        nodesAreSentAgainAsTheyWere();
        sumsAreSentAgainAsTheyWere();
        goneIsSentAgainAsItWas();
        bytesAreSentAgainAsTheyWere();
        blocksAreSentAgainAsTheyWere();
        endIsSentAgainAsItWas();
        lossesOutliveARun();
        aCutRunSendsNothingAgain();
        check.finish();
    }

    private static void states(String what, RollingSync x, int... pairs) {
        for (int i = 0; i < pairs.length; i += 2) {
            check.due(what + ": state(" + pairs[i] + ")", x.state(pairs[i]), pairs[i + 1]);
        }
    }

    private static void loseRefuses() {
        RollingSync x = new RollingSync();
        check.due("k 0", x.lose(0), BAD);
        check.due("k 51", x.lose(51), BAD);
        check.due("k -1", x.lose(-1), BAD);
        check.due("k far below", x.lose(Integer.MIN_VALUE), BAD);
        check.due("k far above", x.lose(Integer.MAX_VALUE), BAD);
        check.due("k 65", x.lose(65), BAD);
        check.due("the largest", x.lose(50), 1);
        check.due("told already", x.lose(50), BAD);
        for (int k = 1; k <= 7; k++) {
            check.due("told", x.lose(k), k + 1);
        }
        check.due("eight are", x.lose(8), FULL);
        check.due("BAD is before FULL", x.lose(7), BAD);
        check.due("BAD k is before FULL", x.lose(51), BAD);
    }

    private static void loseCountsWhatIsNotSentYet() {
        RollingSync x = new RollingSync();
        for (int k = 1; k <= 8; k++) {
            x.lose(2 * k);
        }
        x.begin(0, 4, 1, 0);
        x.step(1);
        check.due("the second is the first by now", x.lose(1), BAD);
        check.due("eight still", x.lose(2), FULL);
        x.step(1);
        states("LOST", x, 2, 2, 3, 1, 14, 1);
        check.due("seven were not sent yet", x.lose(1), 8);
        check.due("eight again", x.lose(50), FULL);
        RollingSync y = new RollingSync();
        y.lose(2);
        y.begin(0, 4, 1, 0);
        y.step(2);
        check.due("none is told any more", y.lose(2), 1);
    }

    private static void twoStepsPass() {
        RollingSync x = new RollingSync();
        x.lose(2);
        x.begin(0, 4, 1, 0);
        x.step(2);
        for (int i = 0; i < 3; i++) {
            states("STEP " + (2 + i), x, 0, 1, 1, 2 + i, 2, 2, 3, 1, 14, 1);
            check.due("sent once", x.sent(0), 10);
            x.step(1);
        }
        states("sent again", x, 0, 2, 1, 5, 2, 3, 3, 1, 14, 1);
        check.due("sent twice", x.sent(0), 20);
        check.due("ASK once", x.sent(1), 2);

        RollingSync y = new RollingSync();
        y.lose(1);
        y.begin(0, 4, 1, 0);
        check.due("STEPS in which nothing is sent count", y.step(3), 3);
        check.due("till it is OVER", y.step(200), 2);
    }

    private static void aMessageMayBeLostAgain() {
        RollingSync x = new RollingSync();
        x.lose(1);
        x.lose(2);
        x.lose(3);
        x.begin(0, 4, 1, 0);
        check.due("three times two STEPS more", x.step(200), 3 * 3 + 2);
        states("all", x, 0, 2, 1, 11, 2, 5, 3, 3);
        check.due("ASKs", x.sent(1), 8);
    }

    private static void aLostAskWaitsNoMore() {
        RollingSync x = new RollingSync();
        x.lose(1);
        x.begin(0, 4, 1, 0);
        states("begun", x, 15, 1);
        x.step(1);
        states("LOST", x, 14, 0, 15, 0);
        check.due("and sent again", x.step(200), 4);
    }

    private static void nodesAreSentAgainAsTheyWere() {
        RollingSync x = new RollingSync();
        x.lose(2);
        x.begin(0, 4, 1, 0);
        x.step(2);
        Told.put(x, 0, 0, 1);
        check.due("NODE 1 as it was", x.step(200), 3);
        states("alike as it was told", x, 0, 2, 4, 0);

        RollingSync y = new RollingSync();
        y.lose(2);
        y.begin(0, 4, 1, 0);
        y.step(2);
        Told.put(y, 1, 0, 1);
        y.step(3);
        states("TARGET's own as it is when it comes", y, 0, 1, 15, 2);
    }

    /** A RUN in which file 7 alone is TO DO, of which the n-th MESSAGE behind will be LOST. */
    private static RollingSync withLoss(int n, int[] ofSource, int[] ofTarget) {
        RollingSync x = new RollingSync();
        if (ofSource != null) {
            Told.put(x, 0, 7, ofSource);
        }
        if (ofTarget != null) {
            Told.put(x, 1, 7, ofTarget);
        }
        x.lose(ASKED_STEPS + n);
        x.begin(0, 4, 2, 1);
        x.step(ASKED_STEPS + n);
        states("LOST", x, 3, 1, 0, 1);
        return x;
    }

    private static void sumsAreSentAgainAsTheyWere() {
        RollingSync x = withLoss(1, new int[] {9}, new int[] {1, 2, 3, 4, 5, 6, 7, 8});
        states("SUMS were sent", x, 12, 2, 14, 2);
        check.due("but have not come", x.sums(0, 0), BAD);
        x.drop(1, 7);
        x.step(2);
        check.due("nor yet", x.sums(0, 0), BAD);
        x.step(1);
        check.due("WEAK as it was", x.sums(1, 0), Told.weak(5, 6, 7, 8));
        check.due("STRONG as it was", x.sums(1, 1), Told.strong(2, 5, 6, 7, 8));
        check.due("their size twice", x.sent(1), 14 + 2 * (6 + 2 * 6));

        RollingSync y = new RollingSync();
        Told.put(y, 0, 6, 1, 2, 3);
        Told.put(y, 0, 7, 1, 2, 3);
        y.begin(0, 4, 1, 0);
        y.step(ASKED_STEPS + 4);
        states("BUILT", y, 13, 3, 14, 7);
        y.lose(1);
        y.step(1);
        states("empty when SUMS are sent, LOST ones, too", y, 3, 1, 13, 0, 14, 2);
    }

    private static void goneIsSentAgainAsItWas() {
        RollingSync x = withLoss(2, null, new int[] {1, 2});
        states("GONE", x, 14, 3, 4, 1);
        Told.put(x, 0, 7, 5);
        check.due("not yet", x.size(1, 7), 2);
        check.due("till OVER", x.step(200), 3);
        check.due("GONE", x.size(1, 7), NO);
        check.due("its size twice", x.sent(0), 70 + 2);
    }

    private static void bytesAreSentAgainAsTheyWere() {
        RollingSync x = withLoss(2, new int[] {1, 2, 3}, null);
        states("BYTES", x, 9, 0, 13, 0, 14, 4);
        x.write(0, 7, 0, 77, 1);
        x.step(3);
        states("BYTES", x, 9, 3, 13, 3, 14, 4);
        check.due("as they were", x.built(0), 1);
        check.due("their size twice", x.sent(0), 70 + 10);
        x.step(1);
        states("which is another DIGEST", x, 7, 1);

        int[] both = {5, 5, 5, 1, 3, 3, 7};
        RollingSync y = withLoss(2, both, new int[] {1, 3, 3, 7});
        states("a MEET", y, 10, 1, 9, 0);
        y.step(3);
        states("LOOKs are not done again", y, 10, 1, 9, 3);
    }

    private static void blocksAreSentAgainAsTheyWere() {
        RollingSync x = withLoss(2, new int[] {1, 2, 3, 4, 9}, new int[] {1, 2, 3, 4});
        states("BLOCK", x, 8, 0, 10, 1, 13, 0, 14, 5);
        x.write(0, 7, 0, 77, 1);
        x.write(1, 7, 3, 0x2C2DL, 2);
        x.step(3);
        states("BLOCK", x, 8, 1, 10, 1, 13, 4, 14, 5);
        check.due("of TARGET's file as it is when it comes", x.built(3), 0x2C);
        check.due("its size twice", x.sent(0), 70 + 8);
    }

    private static void endIsSentAgainAsItWas() {
        RollingSync x = withLoss(3, new int[] {1, 2, 3}, null);
        states("END", x, 5, 0, 14, 6);
        x.write(0, 7, 0, 77, 1);
        x.step(3);
        states("END", x, 5, 1, 7, 0, 14, 6);
        check.holds("in place as it was told", Told.has(x, 1, 7, 1, 2, 3));
        check.due("its size twice", x.sent(0), 70 + 5 + 22);
        x.lose(1);
        x.step(1);
        states("ANSWER", x, 0, 1, 3, 2, 14, 7);
        check.due("till OVER", x.step(200), 3);
        check.due("ANSWER's size twice", x.sent(1), 14 + 6 + 2);
    }

    private static void lossesOutliveARun() {
        RollingSync x = new RollingSync();
        x.lose(4);
        x.begin(0, 4, 1, 0);
        x.step(1);
        x.cut();
        x.begin(0, 4, 1, 0);
        check.due("a RUN without a loss", x.step(200), 2);
        x.begin(1, 4, 1, 0);
        check.due("the fourth is its first", x.step(200), 5);
        states("LOST", x, 2, 3, 3, 1);
        x.begin(1, 4, 1, 0);
        check.due("no more", x.step(200), 2);
        states("LOST", x, 2, 2, 3, 0);
    }

    private static void aCutRunSendsNothingAgain() {
        RollingSync x = new RollingSync();
        x.lose(2);
        x.begin(0, 4, 1, 0);
        x.step(3);
        x.cut();
        states("CUT", x, 0, 3, 1, 3, 2, 2, 3, 1, 14, 1);
        x.begin(0, 4, 1, 0);
        x.step(1);
        states("ASK at once", x, 1, 1, 2, 1, 14, 0);
        check.due("and NODE", x.step(200), 1);
    }
}
