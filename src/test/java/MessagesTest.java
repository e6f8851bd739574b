/** The chapter of "Terms" on a RUN: MESSAGES of the kinds 0 to 7 at their edges, none LOST. */
public final class MessagesTest {
    private static final int BAD = Told.BAD, NO = Told.NO;
    private static final int ASKED_STEPS = Told.ASKED_STEPS;
    /** What both ends have sent when one file alone is TO DO. */
    private static final int ASKS = 2 * 7, NODES = 10 * 7;
    private static final int FILE = 5;
    private static final Check check = new Check("MessagesTest");

    private MessagesTest() {
    }

    public static void main(String[] args) {
        aRunGoesThenItIsOver();
        askOfTheLastThatCameToWait();
        askOfAllNodes();
        nodeAsItIsThen();
        nodeOfTargetAsItIsThen();
        nodeBelowEightAndFromEightOn();
        sumsOfWholeBlocksAlone();
        sumsOfOneAndOf500Blocks();
        sumsOfTheLeastFile();
        goneBehindSumsAlone();
        goneByRuleNought();
        goneByRuleOne();
        goneByRuleTwo();
        lookNearTheFilesEnd();
        lookWithTheLargestBlock();
        bytesOfSixteenAndFewer();
        bytesStopAtABlock();
        bytesDoNotStopAtAFalseMeet();
        blocksOneBehindTheOther();
        theFirstBlockWithBothIsFound();
        falseMeetsAreMeets();
        blockOfWhatIsThere();
        endAtTheSizeOrBehind();
        endOfAFileThatIsNoneByNow();
        endOfAnEmptyFile();
        theThirdTry();
        kTwiceAsMuchEightAtMost();
        eachFileHasItsOwnTries();
        overWithinTheStep();
        builtIsEmptyWhenSumsAreSent();
        builtIsEmptyWhenARunBeginsIsOverOrCut();
        sourceGrowsWhileARunGoes();
        sourceShrinksWhileARunGoes();
        targetChangesWhileARunGoes();
        filesChangeBehindTheirNodes();
        check.finish();
    }

    /** A file of both ends; null: it is none. */
    private static RollingSync with(int[] ofSource, int[] ofTarget) {
        RollingSync x = new RollingSync();
        if (ofSource != null) {
            Told.put(x, 0, FILE, ofSource);
        }
        if (ofTarget != null) {
            Told.put(x, 1, FILE, ofTarget);
        }
        return x;
    }

    /** A RUN whose SUMS of the file came just now. */
    private static RollingSync summed(int[] ofSource, int[] ofTarget, int block, int k, int rule) {
        RollingSync x = with(ofSource, ofTarget);
        x.begin(0, block, k, rule);
        x.step(ASKED_STEPS + 1);
        check.states("SUMS came", x, 0, 1, 4, 1, 14, 2, 15, 0);
        return x;
    }

    private static int[] text(String letters) {
        return Told.bytes(letters);
    }

    private static void aRunGoesThenItIsOver() {
        check.sentence("It GOES, then it is OVER; or it is CUT");
        RollingSync x = new RollingSync();
        check.states("none", x, 0, 0);
        x.begin(0, 1, 1, 0);
        check.states("begun", x, 0, 1);
        x.step(1);
        check.states("a STEP", x, 0, 1);
        x.step(1);
        check.states("the last STEP", x, 0, 2);
        x.begin(0, 1, 1, 0);
        check.states("another", x, 0, 1);
        x.cut();
        check.states("CUT", x, 0, 3);
        x.begin(1, 1, 1, 0);
        check.states("another", x, 0, 1);
    }

    private static void askOfTheLastThatCameToWait() {
        check.sentence("the one that came to wait last (at first NODE 1 alone waits)");
        RollingSync x = with(new int[] {1}, null);
        x.begin(0, 4, 1, 0);
        check.states("at first", x, 15, 1);
        x.step(1);
        check.states("which waits no more", x, 14, 0, 15, 0);
        check.due("ASK is by TARGET, size 2", x.sent(1), 2);
        check.due("and not by SOURCE", x.sent(0), 0);
        // file 5 is below the NODES 1, 3, 6, 13: 2 is asked before 3, 12 before 13, and then 7
        int[] waits = {2, 1, 2, 3, 2, 1, 0};
        int[] toDo = {0, 0, 0, 0, 0, 1, 1};
        for (int i = 0; i < waits.length; i++) {
            x.step(1);
            check.states("NODE " + i, x, 14, 1, 15, waits[i], 4, toDo[i]);
            if (i < waits.length - 1) {
                x.step(1);
                check.states("ASK " + i, x, 14, 0, 15, waits[i] - 1);
            }
        }
        check.due("NODE is by SOURCE, size 10", x.sent(0), NODES);
        check.due("all ASKs", x.sent(1), ASKS);
    }

    private static void askOfAllNodes() {
        check.sentence("as long as NODES are WAITING");
        RollingSync x = new RollingSync();
        for (int file = 0; file < 8; file++) {
            x.write(0, file, 0, 0, 0);
        }
        x.begin(0, 4, 1, 0);
        int most = 0;
        for (int i = 0; i < 15; i++) {
            x.step(1);
            check.states("ASK " + i, x, 14, 0);
            x.step(1);
            check.states("NODE " + i, x, 14, 1);
            most = Math.max(most, x.state(15));
        }
        check.due("the most that wait at once", most, 4);
        check.states("all files are TO DO", x, 4, 8, 15, 0);
        check.goesOn("all of them", x, "267".repeat(8));
        check.states("all of them are DONE", x, 4, 0, 5, 8);
        check.due("alike", x.node(0, 1), x.node(1, 1));
    }

    private static void nodeAsItIsThen() {
        check.sentence("NODE n, behind ASK n: its number as it is then");
        RollingSync x = new RollingSync();
        x.begin(0, 4, 1, 0);
        x.step(1);
        Told.put(x, 0, FILE, 1);
        x.step(1);
        check.states("changed behind ASK", x, 0, 1, 14, 1, 15, 2);
        RollingSync y = with(new int[] {1}, null);
        y.begin(0, 4, 1, 0);
        y.step(1);
        y.drop(0, FILE);
        y.step(1);
        check.states("as TARGET's is", y, 0, 2, 14, 1, 15, 0);
    }

    private static void nodeOfTargetAsItIsThen() {
        check.sentence("if TARGET's own NODE n is another number then");
        RollingSync x = with(new int[] {1}, null);
        x.begin(0, 4, 1, 0);
        x.step(1);
        x.same(1, FILE);
        x.step(1);
        check.states("the same by now", x, 0, 2, 15, 0, 4, 0);
        // the trees differ at the top, but no more when the file itself is asked
        RollingSync y = with(new int[] {1}, null);
        y.begin(0, 4, 1, 0);
        y.step(ASKED_STEPS - 4);
        check.states("13 and 7 wait still", y, 15, 2, 4, 0);
        y.same(1, FILE);
        y.step(4);
        check.states("no file is TO DO", y, 0, 2, 4, 0, 5, 0, 14, 1);
    }

    private static void nodeBelowEightAndFromEightOn() {
        check.sentence("for n below 8 NODE 2 n + 1, then 2 n; else file n - 8 is TO DO");
        for (int file = 0; file < 8; file++) {
            RollingSync x = new RollingSync();
            x.write(1, file, 0, 0, 0);
            x.write(0, file, 0, 9, 1);
            x.begin(0, 4, 1, 0);
            x.step(ASKED_STEPS);
            check.states("file " + file, x, 4, 1, 15, 0, 14, 1);
            check.goesOn("file " + file, x, "2467");
            check.due("file " + file + " is the one", x.at(1, file, 0), 9);
        }
    }

    private static void sumsOfWholeBlocksAlone() {
        check.sentence("its own file's blocks: whole ones alone; none, if it has no file");
        // a block's size, the file's, and how many there are
        int[][] sizes = {{4, 0, 0}, {4, 3, 0}, {4, 4, 1}, {4, 5, 1}, {4, 7, 1}, {4, 8, 2},
            {64, 63, 0}, {64, 64, 1}, {64, 65, 1}, {64, 127, 1}, {64, 128, 2}, {64, 447, 6},
            {64, 448, 7}, {64, 500, 7}, {50, 499, 9}, {50, 500, 10}};
        for (int[] of : sizes) {
            int block = of[0];
            int blocks = of[2];
            RollingSync x = summed(new int[] {9}, Told.count(100, of[1]), block, 3, 0);
            String what = "blocks of " + block + " in " + of[1];
            check.due(what + ": their size", x.sent(1), ASKS + 6 + 7 * blocks);
            check.due(what + ": no more", x.sums(blocks, 0), BAD);
            if (blocks > 0) {
                int[] last = Told.count(100 + (blocks - 1) * block, block);
                check.due(what + ": WEAK of the last", x.sums(blocks - 1, 0), Told.weak(last));
                check.due(what + ": STRONG", x.sums(blocks - 1, 1), Told.strong(3, last));
            }
        }
        RollingSync x = summed(new int[] {9}, null, 4, 3, 0);
        check.due("no file: their size", x.sent(1), ASKS + 6);
        check.due("no file: none", x.sums(0, 0), BAD);
    }

    private static void sumsOfOneAndOf500Blocks() {
        check.sentence("size 6 + (4 + k) for each");
        for (int k = 1; k <= 8; k++) {
            RollingSync x = summed(new int[] {9}, new int[] {7}, 1, k, 0);
            check.due("one by k " + k, x.sent(1), ASKS + 6 + 4 + k);
            RollingSync y = with(new int[] {9}, null);
            y.write(1, FILE, 0, 7, 1);
            y.again(1, FILE, 0, 499);
            y.begin(0, 1, k, 0);
            y.step(ASKED_STEPS + 1);
            check.due("500 by k " + k, y.sent(1), ASKS + 6 + 500 * (4 + k));
        }
    }

    private static void sumsOfTheLeastFile() {
        check.sentence("when no NODE waits, for the least f that is TO DO");
        RollingSync x = new RollingSync();
        for (int file = 7; file >= 0; file -= 7) {
            Told.put(x, 0, file, 1);
            Told.put(x, 1, file, 10 + file, 20);
        }
        x.begin(0, 2, 1, 0);
        x.step(2 * 11);
        check.states("all is asked", x, 4, 2, 14, 1, 15, 0);
        x.step(1);
        check.due("file 0", x.sums(0, 0), Told.weak(10, 20));
        x.step(4);
        check.due("file 7", x.sums(0, 0), Told.weak(17, 20));
    }

    private static void goneBehindSumsAlone() {
        check.sentence("GONE, behind SUMS, if it has no file f when this is made");
        RollingSync x = summed(null, new int[] {1, 2, 3}, 2, 1, 0);
        x.step(1);
        check.states("GONE", x, 14, 3, 4, 0, 0, 2);
        check.due("by SOURCE, size 1", x.sent(0), NODES + 1);
        x = summed(null, new int[] {1, 2, 3}, 2, 1, 0);
        x.write(0, FILE, 0, 0, 0);
        x.step(1);
        check.states("an empty file is one", x, 14, 6);
        x = summed(new int[] {1, 2, 3}, null, 2, 1, 0);
        x.drop(0, FILE);
        x.step(1);
        check.states("none by now", x, 14, 3, 4, 0, 5, 0, 6, 0);
        x = summed(new int[] {1, 2, 3}, null, 2, 1, 0);
        x.step(1);
        x.drop(0, FILE);
        x.step(1);
        check.states("behind BYTES it is END", x, 14, 6, 4, 1);
    }

    private static void goneByRuleNought() {
        check.sentence("by RULE 0 nothing else");
        RollingSync x = summed(null, new int[] {1, 2, 3}, 2, 1, 0);
        x.step(200);
        check.holds("it stays", Told.has(x, 1, FILE, 1, 2, 3));
        check.states("no more TO DO, nor DONE, nor LEFT", x, 0, 2, 4, 0, 5, 0, 6, 0, 7, 0);
        x.begin(0, 2, 1, 0);
        check.due("and is GONE with each RUN", x.step(200), ASKED_STEPS + 2);
    }

    private static void goneByRuleOne() {
        check.sentence("1: TARGET's file is none from now on");
        for (int[] own : new int[][] {{}, {1}, {1, 2, 3}}) {
            RollingSync x = with(null, own);
            Told.put(x, 1, 7, 9);
            x.begin(0, 2, 1, 1);
            x.step(2 * 11 - 4 + 1);
            check.due("not yet", x.size(1, FILE), own.length);
            x.step(200);
            check.due("none", x.size(1, FILE), NO);
            check.due("the other, too", x.size(1, 7), NO);
        }
        RollingSync x = with(null, new int[] {1});
        Told.put(x, 1, 7, 9);
        x.begin(0, 2, 1, 1);
        for (int i = 0; i < 30 && x.state(14) != 3; i++) {
            x.step(1);
        }
        check.due("at once", x.size(1, FILE), NO);
        check.states("the RUN GOES", x, 0, 1, 4, 1);
        Told.put(x, 1, FILE, 8);
        x.step(200);
        check.due("a new one stays", x.at(1, FILE, 0), 8);
        x = summed(null, new int[] {1}, 2, 1, 1);
        x.drop(1, FILE);
        x.step(200);
        check.due("it was none already", x.size(1, FILE), NO);
    }

    private static void goneByRuleTwo() {
        check.sentence("2: it is none when the RUN gets OVER");
        RollingSync x = with(null, new int[] {1});
        Told.put(x, 1, 7, 9);
        Told.put(x, 0, 6, 4);
        x.begin(0, 2, 1, 2);
        for (int i = 0; i < 40 && x.state(0) == 1; i++) {
            check.due("it is there", x.size(1, FILE), 1);
            x.step(1);
        }
        check.states("OVER", x, 0, 2, 5, 1, 14, 3);
        check.due("none", x.size(1, FILE), NO);
        check.due("the other, too", x.size(1, 7), NO);
        check.due("not the one that is DONE", x.size(1, 6), 1);
        x = summed(null, new int[] {1}, 2, 1, 2);
        Told.put(x, 1, 7, 9);
        x.step(1);
        check.due("within the last STEP", x.size(1, FILE), NO);
        check.due("no file but those told", x.size(1, 7), 1);
        x = with(null, new int[] {1});
        Told.put(x, 1, 7, 9);
        x.begin(0, 2, 1, 2);
        for (int i = 0; i < 30 && x.state(14) != 3; i++) {
            x.step(1);
        }
        x.drop(1, FILE);
        Told.put(x, 1, FILE, 8);
        x.step(200);
        check.due("a new one, too", x.size(1, FILE), NO);
        Told.put(x, 1, FILE, 8);
        x.same(0, FILE);
        x.begin(0, 2, 1, 2);
        x.step(200);
        check.due("the next RUN is told anew", x.size(1, FILE), 1);
    }

    private static void lookNearTheFilesEnd() {
        check.sentence("A LOOK at p: if B bytes at least of the file are there from p on");
        RollingSync x = summed(text("xxABCD"), text("ABCD"), 4, 8, 0);
        check.goesOn("just B", x, "4567");
        check.states("just B", x, 8, 1, 9, 2, 10, 2, 13, 0);
        x = summed(text("xxABC"), text("ABCD"), 4, 8, 0);
        check.goesOn("B - 1", x, "467");
        check.states("B - 1", x, 8, 0, 9, 5, 10, 0);
        x = summed(text("ABCD"), text("ABCDABC"), 4, 8, 0);
        check.goesOn("just B at first", x, "567");
        check.states("just B at first", x, 8, 1, 9, 0, 10, 1);
        x = summed(text("ABC"), text("ABCD"), 4, 8, 0);
        check.goesOn("B - 1 at first", x, "467");
        check.states("B - 1 at first", x, 8, 0, 9, 3, 10, 0);
        x = summed(text("ABCDA"), text("ABCD"), 4, 8, 0);
        check.goesOn("one behind a block", x, "5467");
        check.states("one behind a block", x, 8, 1, 9, 1, 10, 1);
        x = summed(text("A"), text("AB"), 1, 8, 0);
        check.goesOn("B is 1", x, "567");
        check.states("B is 1", x, 8, 1, 9, 0, 10, 1);
        // bytes that were trimmed are no bytes of the file, though they were of it before
        x = with(text("ABCD"), text("ABCDE"));
        x.trim(0, FILE, 3);
        x.begin(0, 4, 8, 0);
        x.step(200);
        check.states("trimmed", x, 5, 1, 8, 0, 9, 3, 10, 0);
    }

    private static void lookWithTheLargestBlock() {
        check.sentence("a LOOK with B of 64");
        int[] own = Told.count(0, 130);
        RollingSync x = summed(Told.count(0, 64), own, 64, 8, 0);
        check.goesOn("64 of them", x, "567");
        x = summed(Told.count(0, 63), own, 64, 8, 0);
        check.goesOn("63 of them", x, "444467");
        check.states("63 of them", x, 8, 0, 9, 63, 10, 0);
        x = summed(Told.count(0, 127), own, 64, 8, 0);
        check.goesOn("64 and 63", x, "5444467");
        x = summed(Told.count(64, 64), own, 64, 8, 0);
        check.goesOn("the second block", x, "567");
        check.holds("in place", Told.has(x, 1, FILE, Told.count(64, 64)));
    }

    private static void bytesOfSixteenAndFewer() {
        check.sentence("or there are 16, or the file ends: it is BYTES (sizes 2 and how many)");
        for (int size : new int[] {1, 2, 15, 16, 17, 31, 32, 33, 500}) {
            RollingSync x = summed(Told.count(0, size), null, 4, 1, 0);
            int messages = (size + 15) / 16;
            for (int i = 1; i <= messages; i++) {
                x.step(1);
                int came = Math.min(size, 16 * i);
                check.states("of " + size, x, 14, 4, 9, came, 13, came);
                check.due("their sizes", x.sent(0), NODES + came + 2 * i);
            }
            x.step(1);
            check.states("of " + size + ": END", x, 14, 6, 5, 1);
            check.due("size 11", x.sent(0), NODES + size + 2 * messages + 11);
            x.step(1);
            check.states("of " + size + ": ANSWER", x, 14, 7, 0, 2);
            check.due("by TARGET, size 1", x.sent(1), ASKS + 6 + 1);
        }
    }

    private static void bytesStopAtABlock() {
        check.sentence("with a LOOK behind each but a 16th, till one finds a block");
        String letters = "0123456789abcdefghijklmnopqrstuvwxyz";
        for (int before : new int[] {0, 1, 14, 15, 16, 17, 31, 32, 33}) {
            int[] ofSource = text(letters.substring(0, before) + "WXYZ");
            RollingSync x = summed(ofSource, text("WXYZ??"), 4, 8, 0);
            int parts = (before + 15) / 16;
            check.goesOn(before + " bytes, then a block", x, "4".repeat(parts) + "567");
            // the LOOK behind the last byte finds the block, too, but for a 16th there is none
            int meets = before % 16 == 0 ? 1 : 2;
            check.states(before + " bytes", x, 5, 1, 8, 1, 9, before, 10, meets, 11, 0);
        }
    }

    private static void bytesDoNotStopAtAFalseMeet() {
        check.sentence("a MEET that finds none is FALSE (and BYTES go on)");
        check.due("one WEAK", Told.weak(1, 3, 1), Told.weak(2, 1, 2));
        RollingSync x = summed(new int[] {9, 1, 3, 1, 9, 9}, new int[] {2, 1, 2}, 3, 8, 0);
        check.goesOn("all of them in one", x, "467");
        check.states("behind a byte", x, 5, 1, 8, 0, 9, 6, 10, 1, 11, 1);
        x = summed(new int[] {1, 3, 1, 9}, new int[] {2, 1, 2}, 3, 8, 0);
        check.goesOn("at first", x, "467");
        check.states("at first", x, 5, 1, 8, 0, 9, 4, 10, 1, 11, 1);
        // a FALSE one at place 16 is met once, by the LOOK that makes the next MESSAGE
        int[] far = Told.count(100, 19);
        far[16] = 1;
        far[17] = 3;
        far[18] = 1;
        x = summed(far, new int[] {2, 1, 2}, 3, 8, 0);
        check.goesOn("behind a 16th", x, "4467");
        check.states("behind a 16th", x, 9, 19, 10, 1, 11, 1);
        // a FALSE one, then a block one place on
        x = summed(new int[] {1, 3, 1, 2, 1, 2}, new int[] {2, 1, 2, 3, 1, 2}, 3, 8, 0);
        check.goesOn("then a block", x, "45467");
        check.states("then a block", x, 5, 1, 8, 1, 9, 3, 10, 3, 11, 1);
    }

    private static void blocksOneBehindTheOther() {
        check.sentence("is a block found, it is BLOCK, and p is more by B");
        RollingSync x = summed(text("ABABABAB"), text("AB"), 2, 8, 0);
        for (int i = 1; i <= 4; i++) {
            x.step(1);
            check.states("block " + i, x, 14, 5, 8, i, 10, i, 13, 2 * i);
            check.due("by SOURCE, size 4", x.sent(0), NODES + 4 * i);
        }
        check.goesOn("then END", x, "67");
        RollingSync y = with(null, null);
        y.write(0, FILE, 0, 7, 1);
        y.again(0, FILE, 0, 499);
        y.write(1, FILE, 0, 0x0707, 2);
        y.begin(0, 1, 1, 0);
        y.step(200);
        y.step(200);
        check.states("not yet", y, 0, 1, 8, 400 - ASKED_STEPS - 1);
        check.due("500 of one byte", y.step(200), ASKED_STEPS + 1 + 500 + 2 - 400);
        check.states("all", y, 5, 1, 8, 500, 9, 0, 10, 500, 11, 0);
    }

    private static void theFirstBlockWithBothIsFound() {
        check.sentence("the first block with their WEAK and their STRONG is found");
        // blocks 0 and 1 have one WEAK, blocks 1 and 2 are the same bytes
        RollingSync x = summed(new int[] {2, 1, 2}, new int[] {1, 3, 1, 2, 1, 2, 2, 1, 2}, 3, 8, 0);
        x.write(1, FILE, 0, 0x0A0A0AL, 3);
        x.write(1, FILE, 3, 0x0B0B0BL, 3);
        x.write(1, FILE, 6, 0x0C0C0CL, 3);
        x.step(1);
        check.states("one MEET, not FALSE", x, 8, 1, 10, 1, 11, 0, 13, 3);
        check.due("the bytes of block 1", x.built(0), 0x0B);
    }

    private static void falseMeetsAreMeets() {
        check.sentence("10 MEETS; 11 FALSE ones");
        // 1 3 1 meets 2 1 2 at the places 0, 3 and 6 by its WEAK alone
        int[] thrice = {1, 3, 1, 1, 3, 1, 1, 3, 1};
        RollingSync x = summed(thrice, new int[] {2, 1, 2}, 3, 8, 0);
        x.step(1);
        check.states("thrice", x, 8, 0, 9, 9, 10, 3, 11, 3);
        check.goesOn("then END", x, "67");
        check.states("kept when OVER", x, 10, 3, 11, 3);
    }

    private static void blockOfWhatIsThere() {
        check.sentence("in these places of TARGET's own file then (as many as there are)");
        for (int kept = 0; kept <= 8; kept++) {
            RollingSync x = summed(text("EFGHxyz"), text("ABCDEFGH"), 4, 8, 0);
            x.trim(1, FILE, kept);
            x.step(1);
            check.states(kept + " are there", x, 14, 5, 8, 1, 13, Math.max(0, kept - 4));
            check.due("the first of them", x.built(0), kept > 4 ? 'E' : BAD);
            check.due("none behind", x.built(Math.max(0, kept - 4)), BAD);
        }
        RollingSync x = summed(text("EFGHxyz"), text("ABCDEFGH"), 4, 8, 0);
        x.drop(1, FILE);
        x.step(1);
        check.states("it is none", x, 14, 5, 8, 1, 13, 0);
        x = summed(text("DEFxyz"), text("ABCDEFG"), 3, 8, 0);
        x.write(1, FILE, 3, 0x7172737475L, 5);
        x.step(1);
        check.states("changed bytes, no more than B", x, 14, 5, 13, 3);
        check.due("as they are", x.built(2), 0x73);
    }

    private static void endAtTheSizeOrBehind() {
        check.sentence("END, when p is the file's size or more: the DIGEST as it is then");
        RollingSync x = summed(Told.count(0, 16), null, 4, 1, 0);
        x.step(1);
        check.goesOn("the file's size", x, "67");
        check.states("the file's size", x, 5, 1);
        x = summed(Told.count(0, 20), null, 4, 1, 0);
        x.step(1);
        x.trim(0, FILE, 16);
        check.goesOn("the file's size by now", x, "67");
        check.states("its DIGEST then", x, 5, 1, 7, 0);
        check.due("in place", x.size(1, FILE), 16);
        x = summed(Told.count(0, 20), null, 4, 1, 0);
        x.step(1);
        x.trim(0, FILE, 17);
        check.goesOn("one less", x, "467");
        check.states("one less", x, 5, 1, 9, 17);
        x = summed(Told.count(0, 20), null, 4, 1, 0);
        x.step(1);
        x.trim(0, FILE, 15);
        check.goesOn("more", x, "67" + "2467");
        check.states("more", x, 5, 1, 7, 1, 9, 16 + 15);
    }

    private static void endOfAFileThatIsNoneByNow() {
        check.sentence("(a file that is none by now counts as empty, here and in 4)");
        RollingSync x = summed(Told.count(0, 40), null, 4, 1, 0);
        x.step(1);
        x.drop(0, FILE);
        x.step(1);
        check.states("END behind BYTES", x, 14, 6, 7, 1, 4, 1);
        x.write(0, FILE, 0, 0x0102, 2);
        check.goesOn("a file again", x, "7" + "2467");
        check.holds("in place", Told.has(x, 1, FILE, 1, 2));
        x = summed(text("ABCDABCDEF"), text("ABCD"), 4, 8, 0);
        x.step(1);
        x.drop(0, FILE);
        x.step(1);
        check.states("END behind a BLOCK", x, 14, 6, 7, 1);
        x = summed(text("ABCDABCDEF"), text("ABCD"), 4, 8, 1);
        x.drop(1, FILE);
        x.step(1);
        x.drop(0, FILE);
        x.step(1);
        check.states("nothing BUILT has the DIGEST of nothing", x, 14, 6, 5, 1, 7, 0);
        check.due("an empty file is in place", x.size(1, FILE), 0);
    }

    private static void endOfAnEmptyFile() {
        check.sentence("If what TARGET has BUILT has that DIGEST: it is its file (an empty one)");
        RollingSync x = summed(new int[0], null, 4, 1, 2);
        check.goesOn("none becomes empty", x, "67");
        check.due("none becomes empty", x.size(1, FILE), 0);
        check.states("DONE", x, 5, 1, 7, 0, 8, 0, 9, 0);
        x = summed(new int[0], new int[] {1, 2, 3, 4}, 4, 1, 2);
        check.goesOn("a file becomes empty", x, "67");
        check.due("a file becomes empty", x.size(1, FILE), 0);
        RollingSync y = with(new int[0], new int[0]);
        y.begin(0, 4, 1, 0);
        check.goesOn("both are empty", y, "01");
    }

    /** Makes a TRY be over: the first byte is another when it was sent. */
    private static void failATry(RollingSync x, int attempt) {
        x.step(2);
        check.states("SUMS, BYTES", x, 14, 4);
        x.write(0, FILE, 0, 200 + attempt, 1);
        x.step(1);
        check.states("END", x, 14, 6, 7, attempt);
    }

    private static void theThirdTry() {
        check.sentence("with the third TRY f is LEFT, and not TO DO any more");
        RollingSync x = with(Told.count(0, 10), new int[] {77});
        x.begin(0, 4, 1, 1);
        x.step(ASKED_STEPS);
        failATry(x, 1);
        check.states("the first", x, 0, 1, 4, 1, 5, 0, 6, 0);
        x.step(1);
        check.states("ANSWER", x, 14, 7, 0, 1);
        failATry(x, 2);
        check.states("the second", x, 0, 1, 4, 1, 5, 0, 6, 0);
        x.step(1);
        failATry(x, 3);
        check.states("the third", x, 0, 1, 4, 0, 5, 0, 6, 1);
        x.step(1);
        check.states("ANSWER, and no SUMS behind it", x, 14, 7, 0, 2, 4, 0, 5, 0, 6, 1, 7, 3);
        check.holds("TARGET's file is as it was", Told.has(x, 1, FILE, 77));
        RollingSync y = with(Told.count(0, 10), new int[] {77});
        y.begin(0, 4, 1, 1);
        y.step(ASKED_STEPS);
        failATry(y, 1);
        y.step(1);
        failATry(y, 2);
        check.goesOn("the third has the DIGEST", y, "7" + "2467");
        check.states("DONE", y, 4, 0, 5, 1, 6, 0, 7, 2);
    }

    private static void kTwiceAsMuchEightAtMost() {
        check.sentence("TRIES are one more, and k twice as much (8 at most)");
        int[][] ks = {{1, 2, 4}, {2, 4, 8}, {3, 6, 8}, {4, 8, 8}, {5, 8, 8}, {6, 8, 8}, {7, 8, 8},
            {8, 8, 8}};
        for (int[] each : ks) {
            RollingSync x = with(Told.count(0, 10), new int[] {77, 78, 79, 80});
            x.begin(0, 4, each[0], 0);
            x.step(ASKED_STEPS);
            int bytes = ASKS;
            for (int i = 0; i < 3; i++) {
                failATry(x, i + 1);
                check.states("TRY " + i + " of first k " + each[0], x, 12, each[i]);
                check.due("STRONG by it", x.sums(0, 1), Told.strong(each[i], 77, 78, 79, 80));
                bytes += 6 + 4 + each[i];
                check.due("size by it", x.sent(1), bytes);
                x.step(1);
                bytes++;
            }
            check.states("LEFT", x, 0, 2, 6, 1, 12, each[2]);
        }
    }

    private static void eachFileHasItsOwnTries() {
        check.sentence("(k being the first one and its TRIES 0)");
        RollingSync x = with(Told.count(0, 10), null);
        Told.put(x, 0, 6, 1, 2, 3);
        x.begin(0, 4, 3, 0);
        x.step(2 * 9);
        check.states("two files", x, 4, 2, 15, 0);
        for (int attempt = 1; attempt <= 2; attempt++) {
            failATry(x, attempt);
            x.step(1);
        }
        x.step(4);
        check.states("the first is DONE by the third", x, 5, 1, 7, 2, 12, 8, 14, 7);
        for (int attempt = 1; attempt <= 3; attempt++) {
            x.step(2);
            check.states("the second", x, 6, 0, 12, attempt == 1 ? 3 : attempt == 2 ? 6 : 8, 14, 4);
            x.write(0, 6, 0, 90 + attempt, 1);
            x.step(2);
        }
        check.states("LEFT by its own third", x, 0, 2, 5, 1, 6, 1, 7, 5);
    }

    private static void overWithinTheStep() {
        check.sentence("the RUN is OVER (within the STEP whose MESSAGE came last)");
        RollingSync x = new RollingSync();
        x.begin(0, 4, 1, 0);
        check.due("behind a NODE", x.step(3), 2);
        check.states("behind a NODE", x, 0, 2, 1, 2, 14, 1);
        x = summed(null, new int[] {1}, 4, 1, 0);
        check.due("behind GONE", x.step(2), 1);
        check.states("behind GONE", x, 0, 2, 1, ASKED_STEPS + 2, 14, 3);
        x = summed(new int[] {1}, null, 4, 1, 0);
        x.step(2);
        check.states("not behind END", x, 0, 1, 14, 6);
        check.due("behind ANSWER", x.step(2), 1);
        check.states("behind ANSWER", x, 0, 2, 1, ASKED_STEPS + 4, 14, 7);
    }

    private static void builtIsEmptyWhenSumsAreSent() {
        check.sentence("What TARGET has BUILT is empty when SUMS are sent");
        RollingSync x = with(Told.count(0, 10), null);
        x.begin(0, 4, 1, 0);
        x.step(ASKED_STEPS);
        failATry(x, 1);
        check.states("behind END", x, 13, 10);
        x.step(1);
        check.states("behind ANSWER", x, 13, 10, 14, 7);
        check.due("behind ANSWER", x.built(9), 9);
        x.step(1);
        check.states("SUMS of it again", x, 13, 0, 14, 2);
        check.due("SUMS of it again", x.built(0), BAD);
        x.step(1);
        check.due("from the start", x.built(0), 201);
        check.states("from the start", x, 13, 10);
    }

    private static void builtIsEmptyWhenARunBeginsIsOverOrCut() {
        check.sentence("and when a RUN begins, is OVER or CUT");
        RollingSync x = summed(Told.count(0, 10), null, 4, 1, 0);
        x.step(2);
        check.states("END", x, 13, 10, 0, 1);
        x.step(1);
        check.states("OVER", x, 13, 0, 0, 2);
        check.due("OVER", x.built(0), BAD);
        x.begin(1, 4, 1, 0);
        check.states("begun", x, 13, 0);
        check.due("begun", x.built(0), BAD);
        x = summed(Told.count(0, 10), null, 4, 1, 0);
        x.step(1);
        check.states("BYTES", x, 13, 10);
        x.cut();
        check.states("CUT", x, 13, 0, 0, 3);
        check.due("CUT", x.built(0), BAD);
        x.begin(0, 4, 1, 0);
        check.states("begun", x, 13, 0);
        x.step(200);
        check.due("all of it, and nothing of the CUT one", x.size(1, FILE), 10);
    }

    private static void sourceGrowsWhileARunGoes() {
        check.sentence("Files may change at any time: SOURCE's grows");
        RollingSync x = summed(new int[] {1, 2, 3}, null, 4, 1, 0);
        x.step(1);
        x.write(0, FILE, 3, 0x0405, 2);
        check.goesOn("the place goes along", x, "467");
        check.holds("in place", Told.has(x, 1, FILE, 1, 2, 3, 4, 5));
        x = summed(new int[] {1, 2, 3}, null, 4, 1, 0);
        x.step(2);
        x.write(0, FILE, 3, 0x0405, 2);
        check.goesOn("behind END it is too late", x, "7");
        check.holds("in place as it was told", Told.has(x, 1, FILE, 1, 2, 3));
        x = summed(text("xxABC"), text("ABCD"), 4, 8, 0);
        x.write(0, FILE, 5, 'D', 1);
        check.goesOn("a LOOK is at the file as it is", x, "4567");
        check.states("a block", x, 5, 1, 8, 1, 9, 2);
    }

    private static void sourceShrinksWhileARunGoes() {
        check.sentence("Files may change at any time: SOURCE's shrinks, is none, is changed");
        RollingSync x = summed(Told.count(0, 40), null, 4, 1, 0);
        x.step(1);
        x.trim(0, FILE, 20);
        check.goesOn("fewer bytes", x, "467");
        check.holds("in place", Told.has(x, 1, FILE, Told.count(0, 20)));
        x = summed(Told.count(0, 40), null, 4, 1, 0);
        x.step(1);
        x.write(0, FILE, 16, 99, 1);
        check.goesOn("what is not sent yet", x, "4467");
        check.due("in place", x.at(1, FILE, 16), 99);
        x = summed(Told.count(0, 40), null, 4, 1, 0);
        x.step(1);
        x.write(0, FILE, 15, 99, 1);
        x.step(3);
        check.states("what was sent already", x, 14, 6, 5, 0, 7, 1);
        x = summed(Told.count(0, 40), null, 4, 1, 0);
        x.drop(0, FILE);
        Told.put(x, 0, FILE, 5);
        check.goesOn("none, and a file again", x, "467");
        check.holds("in place", Told.has(x, 1, FILE, 5));
    }

    private static void targetChangesWhileARunGoes() {
        check.sentence("Files may change at any time: TARGET's");
        RollingSync x = summed(new int[] {1, 2, 3}, null, 4, 1, 0);
        x.step(1);
        Told.put(x, 1, FILE, Told.count(50, 60));
        check.goesOn("BYTES are as they came", x, "67");
        check.holds("what is BUILT is its file", Told.has(x, 1, FILE, 1, 2, 3));
        x = summed(text("ABCDEFGH"), text("EFGHABCD"), 4, 8, 0);
        x.write(1, FILE, 4, 'x', 1);
        x.step(1);
        check.due("a BLOCK is as it is then", x.built(0), 'x');
        x.write(1, FILE, 4, 'A', 1);
        check.due("what is BUILT stays", x.built(0), 'x');
        check.goesOn("another DIGEST, and a TRY more", x, "567" + "25567");
        check.states("DONE", x, 5, 1, 7, 1, 8, 4);
        x = summed(new int[] {1, 2, 3}, null, 4, 1, 0);
        x.step(2);
        x.drop(1, FILE);
        check.goesOn("dropped when it is DONE", x, "7");
        check.due("it is none", x.size(1, FILE), NO);
    }

    private static void filesChangeBehindTheirNodes() {
        check.sentence("Files may change at any time: what was asked is not asked again");
        RollingSync x = summed(new int[] {1}, null, 4, 1, 0);
        Told.put(x, 0, 0, 1);
        Told.put(x, 1, 7, 1);
        check.goesOn("the others are not TO DO", x, "467");
        check.due("file 0", x.size(1, 0), NO);
        check.due("file 7", x.size(1, 7), 1);
        x.begin(0, 4, 1, 1);
        x.step(200);
        check.due("file 0 by the next RUN", x.size(1, 0), 1);
        check.due("file 7 by the next RUN", x.size(1, 7), NO);
    }
}
