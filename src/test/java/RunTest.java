/** Promises 10, 11 and 13 to 17: RUNS whose MESSAGES all come, told one by one. */
public final class RunTest {
    private static final int BAD = Told.BAD, NO = Told.NO;
    private static final int[] FAR = {Integer.MIN_VALUE, -1, Integer.MAX_VALUE};
    private static final String ASKED = Told.ASKED;
    private static final int ASKED_STEPS = Told.ASKED_STEPS;
    private static final Check check = new Check("RunTest");

    private RunTest() {
    }

    public static void main(String[] args) {
        beginRefuses();
        beginMakesTheStateAnew();
        stepCounts();
        nodesAreAskedInOrder();
        nodesAreComparedAsTheyAreThen();
        filesAreDoneInOrder();
        bytesGoBySixteen();
        looksStopBytes();
        noLookBehindTheSixteenth();
        theFirstBlockIsFound();
        falseMeets();
        aStrongThatMeetsWronglyCostsATry();
        threeTriesLeaveAFile();
        goneByRules();
        goneIsLookedAtOnlyBehindSums();
        aFileThatBecomesNoneCountsAsEmpty();
        blocksAreTakenAsTheyAreThen();
        builtIsKeptTillTheNextSums();
        cutEndsARun();
        stateRefuses();
        sentAddsUp();
        sumsAreTheLatest();
        olderSumsAreForgotten();
        aCutRunIsForgotten();
        strongHasSignByEight();
        check.finish();
    }

    private static void beginRefuses() {
        check.sentence("begin: BAD, NO");
        RollingSync x = new RollingSync();
        check.due("source 2", x.begin(2, 1, 1, 0), BAD);
        check.due("block 0", x.begin(0, 0, 1, 0), BAD);
        check.due("block 65", x.begin(0, 65, 1, 0), BAD);
        check.due("k 0", x.begin(0, 1, 0, 0), BAD);
        check.due("k 9", x.begin(0, 1, 9, 0), BAD);
        check.due("rule 3", x.begin(0, 1, 1, 3), BAD);
        for (int far : FAR) {
            check.due("source " + far, x.begin(far, 1, 1, 0), BAD);
            check.due("block " + far, x.begin(0, far, 1, 0), BAD);
            check.due("k " + far, x.begin(0, 1, far, 0), BAD);
            check.due("rule " + far, x.begin(0, 1, 1, far), BAD);
        }
        check.due("there is no RUN still", x.state(0), 0);
        check.due("the least", x.begin(0, 1, 1, 0), 1);
        check.due("while one GOES", x.begin(0, 1, 1, 0), NO);
        check.due("BAD is before NO", x.begin(0, 1, 1, 3), BAD);
        x.step(1);
        check.due("while it GOES still", x.begin(1, 1, 1, 0), NO);
        check.due("NO changes nothing", x.state(1), 1);
        x.step(1);
        check.due("the largest, when it is OVER", x.begin(1, 64, 8, 2), 1);
        x.cut();
        check.due("when it is CUT", x.begin(0, 64, 8, 2), 1);
    }

    private static void beginMakesTheStateAnew() {
        check.sentence("state: Of the latest RUN");
        RollingSync x = new RollingSync();
        // a file that is DONE, one that is LEFT with FALSE MEETS, and one that is under way
        Told.put(x, 0, 0, 1);
        Told.put(x, 0, 1, 1, 3, 1);
        Told.put(x, 1, 1, 2, 1, 2);
        Told.put(x, 0, 2, Told.count(0, 40));
        Told.put(x, 1, 2, Told.count(6, 24));
        x.lose(2);
        x.begin(0, 3, 1, 0);
        stepTillDone(x, 1);
        for (int i = 0; i < 100 && x.state(6) < 1; i++) {
            x.step(1);
            if (x.state(14) == 4) {
                x.write(0, 1, 0, i, 1);
            }
        }
        x.step(6);
        for (int what = 0; what < 15; what++) {
            check.holds("something to forget in state(" + what + ")", x.state(what) > 0);
        }
        x.cut();
        x.begin(0, 3, 1, 0);
        for (int what = 0; what < 16; what++) {
            int want = what == 0 || what == 15 ? 1 : what == 14 ? NO : 0;
            check.due("begun: state(" + what + ")", x.state(what), want);
        }
        check.due("begun: built", x.built(0), BAD);
        x.write(0, 1, 0, 0, 1);
        x.step(200);
        check.states("a RUN of its own", x, 4, 0, 5, 2, 6, 0, 7, 0);
    }

    private static void stepCounts() {
        check.sentence("n STEPS, or as many as there are till the RUN is OVER");
        RollingSync x = new RollingSync();
        check.due("no RUN", x.step(1), NO);
        check.due("BAD is before NO", x.step(0), BAD);
        x.begin(0, 1, 1, 0);
        check.due("n 0", x.step(0), BAD);
        check.due("n 201", x.step(201), BAD);
        for (int far : FAR) {
            check.due("n " + far, x.step(far), BAD);
        }
        check.due("BAD changes nothing", x.state(1), 0);
        check.due("one", x.step(1), 1);
        check.due("till it is OVER", x.step(200), 1);
        check.due("OVER", x.step(1), NO);

        Told.put(x, 0, 0, 1, 2);
        x.again(0, 0, 0, 498);
        Told.put(x, 1, 0, 1, 2);
        x.begin(0, 2, 1, 0);
        check.due("200 of 267", x.step(200), 200);
        check.due("the RUN GOES", x.state(0), 1);
        check.due("and the rest", x.step(200), ASKED_STEPS + 1 + 250 + 2 - 200);
    }

    private static void nodesAreAskedInOrder() {
        check.sentence("ASK n: the one that came to wait last");
        RollingSync x = new RollingSync();
        check.due("alike", x.begin(1, 4, 4, 0), 1);
        check.states("nothing asked", x, 15, 1, 14, NO);
        check.goesOn("alike", x, "01");

        Told.put(x, 0, 0, 1);
        Told.put(x, 0, 7, 1);
        x.begin(0, 4, 4, 0);
        // NODES 1, 2, 4, 8, 9, 5, 3, 6, 7, 14, 15; behind each pair how many wait
        int[] waits = {2, 3, 4, 3, 2, 1, 2, 1, 2, 1, 0};
        int[] toDo = {0, 0, 0, 1, 1, 1, 1, 1, 1, 1, 2};
        for (int i = 0; i < waits.length; i++) {
            x.step(1);
            check.states("ask " + i, x, 14, 0, 15, i == 0 ? 0 : waits[i - 1] - 1);
            x.step(1);
            check.states("node " + i, x, 14, 1, 15, waits[i], 4, toDo[i]);
        }
        check.due("a NODE, then ASKs", x.sent(1), 10 + 2 * 11);
        check.due("an ASK, then NODES", x.sent(0), 2 + 10 * 11);
        check.goesOn("one byte each", x, "24672467");
    }

    private static void nodesAreComparedAsTheyAreThen() {
        check.sentence("NODE n: its number as it is then");
        RollingSync x = new RollingSync();
        Told.put(x, 0, 3, 1);
        x.begin(0, 4, 4, 0);
        x.step(1);
        x.drop(0, 3);
        check.goesOn("the NODE is made when it is sent", x, "1");
        Told.put(x, 0, 3, 1);
        x.begin(0, 4, 4, 0);
        x.step(ASKED_STEPS);
        check.states("to do", x, 4, 1);
        x.same(1, 3);
        check.goesOn("TO DO though alike by now", x, "2467");
        check.states("done", x, 4, 0, 5, 1);
    }

    private static void stepTillDone(RollingSync x, int files) {
        for (int i = 0; i < 100 && x.state(5) < files; i++) {
            x.step(1);
        }
    }

    private static void filesAreDoneInOrder() {
        check.sentence("SUMS of f: for the least f that is TO DO");
        RollingSync x = new RollingSync();
        int[] order = {5, 1, 6};
        for (int file : order) {
            Told.put(x, 1, file, 1, 2, 3);
        }
        x.begin(1, 4, 4, 0);
        stepTillDone(x, 1);
        check.holds("the least first", Told.alike(x, 1) && !Told.alike(x, 5) && !Told.alike(x, 6));
        check.states("one done", x, 4, 2, 15, 0);
        stepTillDone(x, 2);
        check.holds("then the next", Told.alike(x, 5) && !Told.alike(x, 6));
        x.step(200);
        check.due("all alike", x.node(0, 1), x.node(1, 1));
        check.states("all done", x, 0, 2, 4, 0, 5, 3, 6, 0, 7, 0);
    }

    private static void bytesGoBySixteen() {
        check.sentence("BYTES: or there are 16, or the file ends");
        RollingSync x = new RollingSync();
        Told.put(x, 0, 2, Told.count(0, 33));
        x.begin(0, 4, 3, 0);
        x.step(ASKED_STEPS + 1);
        check.due("SUMS of none", x.sent(1), 2 * 7 + 6);
        check.states("SUMS", x, 12, 3, 14, 2);
        x.step(1);
        check.states("16 bytes", x, 9, 16, 13, 16, 14, 4);
        check.due("their size", x.sent(0), 70 + 18);
        x.step(2);
        check.states("33 bytes", x, 9, 33, 13, 33, 14, 4);
        check.due("all of their sizes", x.sent(0), 70 + 18 + 18 + 3);
        check.due("built", x.built(32), 32);
        check.due("built no more", x.built(33), BAD);
        check.due("not in place yet", x.size(1, 2), NO);
        check.goesOn("END and ANSWER", x, "67");
        check.holds("in place", Told.has(x, 1, 2, Told.count(0, 33)));
        check.states("all", x, 8, 0, 10, 0, 13, 0);
        check.due("END's size", x.sent(0), 70 + 18 + 18 + 3 + 11);
        check.due("ANSWER's size", x.sent(1), 2 * 7 + 6 + 1);

        RollingSync y = new RollingSync();
        Told.put(y, 0, 1, Told.count(0, 32));
        y.begin(0, 4, 3, 0);
        check.goesOn("two times 16", y, ASKED + "24467");
        RollingSync z = new RollingSync();
        Told.put(z, 0, 1);
        z.begin(0, 4, 3, 0);
        check.goesOn("an empty file", z, ASKED + "267");
        check.due("an empty file is in place", z.size(1, 1), 0);
    }

    private static void looksStopBytes() {
        check.sentence("which is for the next MESSAGE, by a LOOK of its own");
        RollingSync x = new RollingSync();
        Told.put(x, 0, 4, Told.bytes("xyzABCDpABCDEFGHq"));
        Told.put(x, 1, 4, Told.bytes("ABCDEFGH123"));
        x.begin(0, 4, 1, 0);
        x.step(ASKED_STEPS + 1);
        check.due("SUMS of two blocks", x.sent(1), 2 * 7 + 6 + 2 * 5);
        x.step(1);
        check.states("xyz, stopped by a MEET", x, 14, 4, 9, 3, 10, 1);
        x.step(1);
        check.states("its block, by a MEET of its own", x, 14, 5, 8, 1, 10, 2, 13, 7);
        check.due("sizes", x.sent(0), 70 + 5 + 4);
        check.due("built", x.built(3), 'A');
        x.step(1);
        check.states("p", x, 14, 4, 9, 4, 10, 3);
        x.step(2);
        check.states("two blocks", x, 14, 5, 8, 3, 10, 5, 13, 16);
        check.goesOn("q", x, "467");
        check.states("all", x, 5, 1, 9, 5, 10, 5, 11, 0);
        check.holds("in place", Told.has(x, 1, 4, Told.bytes("xyzABCDpABCDEFGHq")));
    }

    private static void noLookBehindTheSixteenth() {
        check.sentence("with a LOOK behind each but a 16th");
        RollingSync x = new RollingSync();
        Told.put(x, 0, 4, Told.bytes("0123456789abcdefABCD"));
        Told.put(x, 1, 4, Told.bytes("ABCD"));
        x.begin(0, 4, 1, 0);
        x.step(ASKED_STEPS + 2);
        check.states("16, and no LOOK", x, 9, 16, 10, 0);
        x.step(1);
        check.states("a LOOK for the next MESSAGE", x, 8, 1, 10, 1, 14, 5);
        check.goesOn("all", x, "67");

        RollingSync y = new RollingSync();
        Told.put(y, 0, 4, Told.bytes("0123456789abcdeABCD"));
        Told.put(y, 1, 4, Told.bytes("ABCD"));
        y.begin(0, 4, 1, 0);
        y.step(ASKED_STEPS + 2);
        check.states("15, and a LOOK", y, 9, 15, 10, 1);
        check.goesOn("all", y, "567");
        check.states("all", y, 10, 2);
    }

    private static void theFirstBlockIsFound() {
        check.sentence("the first block with their WEAK and their STRONG is found");
        RollingSync x = new RollingSync();
        Told.put(x, 0, 4, Told.bytes("ABCD"));
        Told.put(x, 1, 4, Told.bytes("????ABCDABCD"));
        x.begin(0, 4, 1, 0);
        x.step(ASKED_STEPS + 1);
        // the first of the two is no longer what its sums told, which shows that it is the one
        x.write(1, 4, 4, 'Z', 1);
        x.step(1);
        check.due("block 1, as it is by now", x.built(0), 'Z');
        x.cut();

        // 1 3 1 and 2 1 2 have one WEAK: the first with the STRONG, too, is the second
        RollingSync y = new RollingSync();
        Told.put(y, 0, 4, 2, 1, 2);
        Told.put(y, 1, 4, 1, 3, 1, 2, 1, 2);
        y.begin(0, 3, 1, 0);
        check.goesOn("one block", y, ASKED + "2567");
        check.states("one MEET that is not FALSE", y, 5, 1, 8, 1, 10, 1, 11, 0);
    }

    private static void falseMeets() {
        check.sentence("a MEET that finds none is FALSE");
        check.due("one WEAK", Told.weak(1, 3, 1), Told.weak(2, 1, 2));
        check.holds("two STRONGs", Told.strong(1, 1, 3, 1) != Told.strong(1, 2, 1, 2));
        RollingSync x = new RollingSync();
        Told.put(x, 0, 4, 9, 1, 3, 1, 9);
        Told.put(x, 1, 4, 2, 1, 2);
        x.begin(0, 3, 1, 0);
        check.goesOn("FALSE", x, ASKED + "2467");
        check.states("FALSE", x, 5, 1, 8, 0, 9, 5, 10, 1, 11, 1);
    }

    private static void aStrongThatMeetsWronglyCostsATry() {
        check.sentence("Else the TRY is over");
        int[][] pair = {{3, 4, 0}, {4, 2, 1}};
        check.due("one WEAK", Told.weak(pair[0]), Told.weak(pair[1]));
        check.due("one STRONG by 1", Told.strong(1, pair[0]), Told.strong(1, pair[1]));
        check.holds("not by 2", Told.strong(2, pair[0]) != Told.strong(2, pair[1]));
        RollingSync x = new RollingSync();
        Told.put(x, 0, 6, pair[0]);
        Told.put(x, 1, 6, pair[1]);
        x.begin(0, 3, 1, 0);
        x.step(ASKED_STEPS + 3);
        check.states("a TRY was over", x, 4, 1, 5, 0, 7, 1, 8, 1, 12, 1, 14, 6);
        check.holds("nothing is put in place", Told.has(x, 1, 6, pair[1]));
        x.step(1);
        check.states("the ANSWER", x, 14, 7, 12, 1);
        x.step(1);
        check.states("SUMS by 2", x, 14, 2, 12, 2, 13, 0);
        check.due("STRONG by 2", x.sums(0, 1), Told.strong(2, pair[1]));
        check.goesOn("the bytes", x, "467");
        check.states("done by the second", x, 4, 0, 5, 1, 6, 0, 7, 1, 10, 2, 11, 1);
        check.holds("in place", Told.has(x, 1, 6, pair[0]));
        check.due("sizes of two SUMS", x.sent(1), 14 + 11 + 1 + 12 + 1);
    }

    private static void threeTriesLeaveAFile() {
        check.sentence("with the third TRY f is LEFT");
        RollingSync x = new RollingSync();
        Told.put(x, 0, 0, Told.count(0, 20));
        Told.put(x, 0, 1, 5);
        x.begin(0, 8, 3, 0);
        x.step(ASKED_STEPS);
        int[] ks = {3, 6, 8};
        for (int i = 0; i < 3; i++) {
            x.step(2);
            check.states("SUMS and BYTES", x, 6, 0, 7, i, 12, ks[i], 14, 4);
            x.write(0, 0, 0, 100 + i, 1);
            x.step(3);
            check.states("a TRY was over", x, 5, 0, 7, i + 1, 14, 7);
        }
        check.due("LEFT", x.state(6), 1);
        check.due("not TO DO any more", x.state(4), 1);
        check.due("nothing is in place", x.size(1, 0), NO);
        x.step(1);
        check.states("the next file by the first k", x, 12, 3, 14, 2);
        check.goesOn("which is DONE", x, "467");
        check.states("all", x, 4, 0, 5, 1, 6, 1, 7, 3);
    }

    private static RollingSync withTwoGone(int rule) {
        RollingSync x = new RollingSync();
        Told.put(x, 1, 6, 1, 2, 3);
        Told.put(x, 1, 7, 4);
        x.begin(0, 2, 1, rule);
        x.step(ASKED_STEPS + 2);
        check.states("rule " + rule + ": GONE", x, 14, 3, 4, 1, 5, 0);
        check.due("its size", x.sent(0), 71);
        return x;
    }

    private static void goneByRules() {
        check.sentence("by RULE 0 nothing else; 1: from now on; 2: when the RUN gets OVER");
        RollingSync x = withTwoGone(0);
        check.due("RULE 0: it stays", x.size(1, 6), 3);
        check.goesOn("RULE 0", x, "23");
        check.due("RULE 0: it stays", x.size(1, 6), 3);
        check.states("RULE 0", x, 4, 0, 5, 0, 6, 0);

        x = withTwoGone(1);
        check.due("RULE 1: it is none", x.size(1, 6), NO);
        check.due("RULE 1: not the other yet", x.size(1, 7), 1);
        check.goesOn("RULE 1", x, "23");
        check.due("RULE 1: the other, too", x.size(1, 7), NO);

        x = withTwoGone(2);
        check.due("RULE 2: it is there still", x.size(1, 6), 3);
        x.write(1, 6, 0, 8, 1);
        x.step(1);
        check.due("RULE 2: it is there still", x.size(1, 6), 3);
        check.goesOn("RULE 2", x, "3");
        check.due("RULE 2: it is none, changed as it is", x.size(1, 6), NO);
        check.due("RULE 2: the other, too", x.size(1, 7), NO);

        RollingSync all = new RollingSync();
        for (int file = 0; file < 8; file++) {
            Told.put(all, 1, file, file);
        }
        all.begin(0, 1, 1, 2);
        all.step(200);
        check.due("RULE 2: all of them", all.node(1, 1), all.node(0, 1));

        x = withTwoGone(2);
        x.cut();
        check.due("RULE 2, CUT: it is there", x.size(1, 6), 3);
        x.begin(1, 2, 1, 2);
        x.step(200);
        check.due("RULE 2, CUT: the next RUN knows nothing of it", x.size(0, 6), 3);
    }

    private static void goneIsLookedAtOnlyBehindSums() {
        check.sentence("GONE, behind SUMS, if it has no file f when this is made");
        RollingSync x = new RollingSync();
        Told.put(x, 0, 6, Told.count(0, 20));
        x.begin(0, 2, 1, 1);
        x.step(ASKED_STEPS + 1);
        x.drop(0, 6);
        x.step(1);
        check.states("none when it is made", x, 14, 3, 0, 2);

        Told.put(x, 1, 6, 1);
        x.begin(0, 2, 1, 1);
        x.step(ASKED_STEPS + 1);
        Told.put(x, 0, 6, 1, 2, 3);
        check.goesOn("a file when it is made", x, "467");
        check.holds("in place", Told.has(x, 1, 6, 1, 2, 3));
    }

    private static void aFileThatBecomesNoneCountsAsEmpty() {
        check.sentence("a file that is none by now counts as empty");
        RollingSync x = new RollingSync();
        Told.put(x, 0, 6, Told.count(0, 20));
        x.begin(0, 2, 1, 1);
        x.step(ASKED_STEPS + 2);
        x.drop(0, 6);
        check.goesOn("END at once, and GONE with the next TRY", x, "6723");
        check.states("a TRY was over", x, 5, 0, 6, 0, 7, 1, 9, 16);

        // a block of which nothing is left builds nothing, which is what none has
        RollingSync y = new RollingSync();
        Told.put(y, 0, 6, 1, 2, 3);
        Told.put(y, 1, 6, 1, 2);
        y.begin(0, 2, 1, 1);
        y.step(ASKED_STEPS + 1);
        y.drop(1, 6);
        y.step(1);
        check.states("a block of nothing", y, 8, 1, 13, 0, 14, 5);
        y.drop(0, 6);
        check.goesOn("END with the DIGEST of nothing", y, "67");
        check.due("an empty file", y.size(1, 6), 0);
        check.states("DONE", y, 5, 1, 7, 0);
    }

    private static void blocksAreTakenAsTheyAreThen() {
        check.sentence("of a BLOCK the bytes of TARGET's own file then");
        RollingSync x = new RollingSync();
        Told.put(x, 0, 6, Told.bytes("ABCDEFGH"));
        Told.put(x, 1, 6, Told.bytes("EFGHABCD"));
        x.begin(0, 4, 1, 0);
        x.step(ASKED_STEPS + 1);
        x.trim(1, 6, 6);
        x.step(1);
        check.states("as many as there are", x, 8, 1, 13, 2);
        check.due("A", x.built(0), 'A');
        check.due("B", x.built(1), 'B');
        check.due("no more", x.built(2), BAD);
        x.write(1, 6, 1, 'f', 1);
        x.step(1);
        check.due("E", x.built(2), 'E');
        check.due("f", x.built(3), 'f');
        x.step(1);
        check.states("a TRY was over", x, 7, 1, 14, 6);

        RollingSync y = new RollingSync();
        Told.put(y, 0, 6, Told.bytes("ABCDEFGH__"));
        Told.put(y, 1, 6, Told.bytes("ABCDEFGH"));
        y.begin(0, 4, 1, 0);
        y.step(ASKED_STEPS + 2);
        y.trim(0, 6, 3);
        check.goesOn("the place is behind the file by now", y, "67" + "2467");
        check.holds("in place", Told.has(y, 1, 6, Told.bytes("ABC")));
    }

    private static void builtIsKeptTillTheNextSums() {
        check.sentence("What TARGET has BUILT is empty when SUMS are sent");
        RollingSync x = new RollingSync();
        Told.put(x, 0, 6, 1, 2, 3);
        Told.put(x, 0, 7, 4);
        x.begin(0, 4, 1, 0);
        x.step(ASKED_STEPS + 2);
        check.due("built(2)", x.built(2), 3);
        check.due("built(3)", x.built(3), BAD);
        for (int far : FAR) {
            check.due("built(" + far + ")", x.built(far), BAD);
        }
        x.step(2);
        check.states("behind ANSWER", x, 14, 7, 13, 3);
        x.step(1);
        check.states("SUMS", x, 14, 2, 13, 0);
        check.due("SUMS: built(0)", x.built(0), BAD);
        x.step(1);
        check.due("of the next file", x.built(0), 4);
        check.goesOn("all", x, "67");
        check.due("OVER: built(0)", x.built(0), BAD);
        check.states("OVER", x, 13, 0);
    }

    private static void cutEndsARun() {
        check.sentence("A RUN that GOES is CUT: how many STEPS it had");
        RollingSync x = new RollingSync();
        check.due("no RUN", x.cut(), NO);
        Told.put(x, 0, 0, Told.count(0, 40));
        x.begin(0, 4, 1, 0);
        check.due("at once", x.cut(), 0);
        check.states("CUT", x, 0, 3, 15, 1, 14, NO);
        check.due("CUT twice", x.cut(), NO);
        check.due("no STEPS", x.step(1), NO);
        x.begin(0, 4, 1, 0);
        x.step(ASKED_STEPS + 2);
        check.due("how many STEPS", x.cut(), ASKED_STEPS + 2);
        check.states("CUT", x, 0, 3, 1, 16, 2, 16, 4, 1, 9, 16, 12, 1, 13, 0, 14, 4);
        check.due("nothing is BUILT", x.built(0), BAD);
        check.due("nothing in place", x.size(1, 0), NO);
        x.begin(0, 4, 1, 0);
        check.goesOn("from the start", x, ASKED + "2444" + "67");
        check.due("OVER", x.cut(), NO);
    }

    private static void stateRefuses() {
        check.sentence("state: BAD: another what");
        RollingSync x = new RollingSync();
        for (int far : FAR) {
            check.due("state(" + far + ")", x.state(far), BAD);
        }
        check.due("state(16)", x.state(16), BAD);
    }

    private static void sentAddsUp() {
        check.sentence("How many bytes the MESSAGES of an end had, in all");
        RollingSync x = new RollingSync();
        x.begin(0, 4, 1, 0);
        x.step(2);
        x.begin(1, 4, 1, 0);
        check.due("begin keeps it", x.sent(0), 10);
        x.step(2);
        check.due("NODE, then ASK", x.sent(0), 10 + 2);
        check.due("ASK, then NODE", x.sent(1), 2 + 10);
        check.due("end 2", x.sent(2), BAD);
        for (int far : FAR) {
            check.due("end " + far, x.sent(far), BAD);
        }
    }

    private static void olderSumsAreForgotten() {
        check.sentence("some block of the SUMS has their WEAK");
        RollingSync x = new RollingSync();
        Told.put(x, 0, 6, 9);
        Told.put(x, 1, 6, 1, 2, 3, 4);
        Told.put(x, 0, 7, 1, 2, 3, 4);
        Told.put(x, 1, 7, 1, 2);
        x.begin(0, 2, 1, 0);
        check.goesOn("blocks of the file before do not meet", x, ASKED + "2467" + "25467");
        check.states("one block", x, 5, 2, 8, 1, 9, 3, 10, 1);

        // of file 7 the one block has the WEAK of 2 1 2, which was the second block of file 6
        RollingSync y = new RollingSync();
        Told.put(y, 0, 6, 9);
        Told.put(y, 1, 6, 5, 5, 5, 2, 1, 2);
        Told.put(y, 0, 7, 2, 1, 2);
        Told.put(y, 1, 7, 1, 3, 1);
        y.begin(0, 3, 8, 0);
        check.goesOn("nor are they found", y, ASKED + "2467" + "2467");
        check.states("a FALSE one", y, 5, 2, 8, 0, 10, 1, 11, 1);
    }

    private static void aCutRunIsForgotten() {
        check.sentence("A RUN begins: NODE 1 alone waits, no file is TO DO, RULE 2 told none");
        for (int file = 0; file < 8; file++) {
            RollingSync x = new RollingSync();
            Told.put(x, 1, file, 1, 2);
            x.begin(0, 1, 1, 2);
            x.step(ASKED_STEPS);
            check.states("TO DO", x, 4, 1);
            x.cut();
            x.begin(0, 1, 1, 2);
            check.states("no file is TO DO", x, 4, 0, 15, 1);
            x.same(0, file);
            check.goesOn("alike by now", x, "01");
        }
        // behind GONE of file 7 a RUN is OVER, so that it can't be CUT there
        for (int file = 0; file < 7; file++) {
            RollingSync x = new RollingSync();
            Told.put(x, 1, file, 1, 2);
            Told.put(x, 1, 7, 1);
            x.begin(0, 1, 1, 2);
            for (int i = 0; i < 40 && x.state(14) != 3; i++) {
                x.step(1);
            }
            check.states("the other is TO DO", x, 0, 1, 4, 1, 14, 3);
            x.cut();
            x.same(0, file);
            x.same(0, 7);
            x.begin(0, 1, 1, 2);
            check.goesOn("alike by now", x, "01");
            check.due("what the CUT one told is there", x.size(1, file), 2);
        }
    }

    private static void sumsAreTheLatest() {
        check.sentence("Of block i of the latest SUMS that came");
        RollingSync x = new RollingSync();
        Told.put(x, 0, 6, 9);
        Told.put(x, 1, 6, 1, 2, 3, 4, 5, 6, 7);
        Told.put(x, 0, 7, 9);
        Told.put(x, 1, 7, 11, 12, 13);
        x.begin(0, 3, 2, 0);
        x.step(ASKED_STEPS);
        check.due("none yet", x.sums(0, 0), BAD);
        x.step(1);
        check.due("block 0, WEAK", x.sums(0, 0), Told.weak(1, 2, 3));
        check.due("block 0, STRONG", x.sums(0, 1), Told.strong(2, 1, 2, 3));
        check.due("block 1, WEAK", x.sums(1, 0), Told.weak(4, 5, 6));
        check.due("block 1, STRONG", x.sums(1, 1), Told.strong(2, 4, 5, 6));
        check.due("whole ones alone", x.sums(2, 0), BAD);
        check.due("what 2", x.sums(0, 2), BAD);
        for (int far : FAR) {
            check.due("block " + far, x.sums(far, 0), BAD);
            check.due("what " + far, x.sums(0, far), BAD);
        }
        x.write(1, 6, 0, 77, 1);
        check.due("as they were told", x.sums(0, 0), Told.weak(1, 2, 3));
        x.step(4);
        check.due("of the next file", x.sums(0, 0), Told.weak(11, 12, 13));
        check.due("which has one", x.sums(1, 0), BAD);
        x.step(200);
        check.due("when the RUN is OVER", x.sums(0, 0), Told.weak(11, 12, 13));
        x.begin(1, 3, 2, 0);
        check.due("when the next one begins", x.sums(0, 0), Told.weak(11, 12, 13));
    }

    private static void strongHasSignByEight() {
        check.sentence("STRONG, by k: its lowest 8 k bits");
        RollingSync x = new RollingSync();
        int first = 0;
        while (first < 255 && Told.digest(first) >= 0) {
            first++;
        }
        Told.put(x, 1, 7, first);
        Told.put(x, 0, 7, 255 - first);
        x.begin(0, 1, 8, 0);
        x.step(ASKED_STEPS + 1);
        check.due("the DIGEST", x.sums(0, 1), Told.digest(first));
        x.cut();
        x.begin(0, 1, 7, 0);
        x.step(ASKED_STEPS + 1);
        check.due("its lowest 56 bits", x.sums(0, 1), Told.digest(first) & (1L << 56) - 1);
    }
}
