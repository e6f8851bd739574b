/**
 * Two ends keep eight files alike over a line that loses: trees of digests are asked first, then
 * sums of blocks, weak and strong, are met at any offset, what does not meet goes as it is, and
 * each file is put in place only when all of it has the digest that was told.
 */
public final class RollingSync {
    public static final int BAD = -1, NO = -2, FULL = -3;

    private static final int FILES = 8, FILE_MOST = 500, BLOCK_MOST = 64, K_MOST = 8;
    private static final int NUMBER_BYTES = 8, BYTES_MOST = 16, TRIES_MOST = 3;
    private static final int STEPS_MOST = 200, LOSE_MOST = 50, TOLD_MOST = 8, SILENT_STEPS = 2;
    private static final int NODES = 2 * FILES, ROOT = 1;

    private static final int RULE_DROP_NOW = 1, RULE_DROP_LATER = 2, RULE_MOST = 2;
    private static final int NO_RUN = 0, GOES = 1, OVER = 2, CUT = 3;
    private static final int ASK = 0, NODE = 1, SUMS = 2, GONE = 3;
    private static final int BYTES = 4, BLOCK = 5, END = 6, ANSWER = 7;

    private static final long EMPTY_DIGEST = -3750763034362895579L, DIGEST_FACTOR = 1099511628211L;

    private final Side zero = new Side();
    private final Side one = new Side();
    private final Line line = new Line();
    private final Run run = new Run(zero, one, line);

    public RollingSync() {
    }

    public int write(int end, int file, int at, long bytes, int n) {
        if (!isEnd(end) || !isFile(file) || n < 0 || n > NUMBER_BYTES) {
            return BAD;
        }
        Side side = side(end);
        if (at < 0 || at > side.countOf(file)) {
            return BAD;
        }
        if (at + n > FILE_MOST) {
            return FULL;
        }
        side.put(file, at, bytes, n);
        return side.countOf(file);
    }

    public int again(int end, int file, int from, int n) {
        Row row = existing(end, file);
        if (row == null || !row.holds(from, 1) || n < 0 || n > FILE_MOST) {
            return BAD;
        }
        if (row.count() + n > FILE_MOST) {
            return FULL;
        }
        for (int i = 0; i < n; i++) {
            row.add(row.get(from + i));
        }
        side(end).refresh(file);
        return row.count();
    }

    public int trim(int end, int file, int n) {
        Row row = existing(end, file);
        if (row == null || !row.holds(0, n)) {
            return BAD;
        }
        int had = row.count();
        row.keep(n);
        side(end).refresh(file);
        return had;
    }

    public int drop(int end, int file) {
        Row row = existing(end, file);
        if (row == null) {
            return BAD;
        }
        int had = row.count();
        side(end).remove(file);
        return had;
    }

    public int same(int end, int file) {
        if (!isEnd(end) || !isFile(file)) {
            return BAD;
        }
        Side side = side(end);
        Row other = side(1 - end).existing(file);
        if (other == null) {
            side.remove(file);
        } else {
            side.replace(file, other);
        }
        return side.countOf(file);
    }

    public int at(int end, int file, int i) {
        Row row = existing(end, file);
        return row == null ? BAD : row.get(i);
    }

    public int size(int end, int file) {
        if (!isEnd(end) || !isFile(file)) {
            return BAD;
        }
        Row row = side(end).existing(file);
        return row == null ? NO : row.count();
    }

    public long node(int end, int n) {
        return isEnd(end) ? side(end).digestAt(n) : 0;
    }

    public int begin(int source, int block, int k, int rule) {
        if (!isEnd(source) || block < 1 || block > BLOCK_MOST) {
            return BAD;
        }
        if (k < 1 || k > K_MOST || rule < 0 || rule > RULE_MOST) {
            return BAD;
        }
        if (run.goes()) {
            return NO;
        }
        run.start(source, block, k, rule);
        return 1;
    }

    public int step(int n) {
        if (n < 1 || n > STEPS_MOST) {
            return BAD;
        }
        if (!run.goes()) {
            return NO;
        }
        int steps = 0;
        while (steps < n && run.goes()) {
            run.oneStep();
            steps++;
        }
        return steps;
    }

    public int lose(int k) {
        return k < 1 || k > LOSE_MOST ? BAD : line.tellLoss(k);
    }

    public int cut() {
        return run.goes() ? run.stop() : NO;
    }

    public int state(int what) {
        return run.tell(what);
    }

    public long sent(int end) {
        return isEnd(end) ? line.bytesBy(end) : BAD;
    }

    public int built(int i) {
        return run.builtByte(i);
    }

    public long sums(int i, int what) {
        return run.sumOf(i, what);
    }

    public long weak(int end, int file, int at, int n) {
        Row row = existing(end, file);
        if (row == null || n < 1 || n > BLOCK_MOST || !row.holds(at, n)) {
            return BAD;
        }
        return row.weakOf(at, n);
    }

    private static boolean isEnd(int end) {
        return end == 0 || end == 1;
    }

    private static boolean isFile(int file) {
        return file >= 0 && file < FILES;
    }

    /** STRONG by k. */
    private static long strong(long digest, int k) {
        // Java shifts by 64 as by 0, so the whole DIGEST needs a case of its own
        return k >= K_MOST ? digest : digest & ((1L << (8 * k)) - 1);
    }

    private Side side(int end) {
        return end == 0 ? zero : one;
    }

    /** The bytes of a file; null: no such end or file, or the file is none. */
    private Row existing(int end, int file) {
        return isEnd(end) ? side(end).existing(file) : null;
    }

    /** Bytes in a row: those of a file, of a MESSAGE, or what is BUILT. */
    private static final class Row {
        private final int[] cells;
        private int count;

        Row(int most) {
            cells = new int[Math.max(0, most)];
        }

        int count() {
            return count;
        }

        boolean holds(int from, int n) {
            return from >= 0 && n >= 0 && n <= count && from <= count - n;
        }

        int get(int i) {
            return i >= 0 && i < count ? cells[i] : BAD;
        }

        /** Changes a byte, or puts one just behind the last. */
        void set(int i, int value) {
            if (i < 0 || i > count || i >= cells.length) {
                return;
            }
            cells[i] = value;
            if (i == count) {
                count++;
            }
        }

        void add(int value) {
            set(count, value);
        }

        void addAll(Row other) {
            for (int i = 0; i < other.count; i++) {
                set(count, other.cells[i]);
            }
        }

        void keep(int n) {
            if (n >= 0 && n < count) {
                count = n;
            }
        }

        /** DIGEST of n bytes from a place on, of as many as there are. */
        long digestOf(int from, int n) {
            long digest = EMPTY_DIGEST;
            for (int i = from; i >= 0 && i < from + n && i < count; i++) {
                digest = (digest ^ cells[i]) * DIGEST_FACTOR;
            }
            return digest;
        }

        /** WEAK of n bytes from a place on, of as many as there are. */
        long weakOf(int from, int n) {
            int plain = 0;
            int weighted = 0;
            for (int i = from; i >= 0 && i < from + n && i < count; i++) {
                plain += cells[i];
                weighted += (from + n - i) * cells[i];
            }
            return (weighted & 0xFFFFL) << 16 | plain & 0xFFFFL;
        }
    }

    /** The files of an end, and its NODES, which are made anew with each change of a file. */
    private static final class Side {
        private final Row[] rows = new Row[FILES];
        private final boolean[] present = new boolean[FILES];
        private final long[] nodes = new long[NODES];

        Side() {
            for (int file = 0; file < FILES; file++) {
                rows[file] = new Row(FILE_MOST);
            }
            for (int file = 0; file < FILES; file++) {
                refresh(file);
            }
        }

        /** The bytes of a file; null: no such file, or it is none. */
        Row existing(int file) {
            return isFile(file) && present[file] ? rows[file] : null;
        }

        int countOf(int file) {
            Row row = existing(file);
            return row == null ? 0 : row.count();
        }

        /** NODE n; 0: no such. */
        long digestAt(int n) {
            return n >= ROOT && n < NODES ? nodes[n] : 0;
        }

        void put(int file, int from, long bytes, int n) {
            if (!isFile(file)) {
                return;
            }
            for (int i = 0; i < n; i++) {
                rows[file].set(from + i, (int) (bytes >>> 8 * (n - 1 - i)) & 255);
            }
            present[file] = true;
            refresh(file);
        }

        void replace(int file, Row content) {
            if (!isFile(file)) {
                return;
            }
            rows[file].keep(0);
            rows[file].addAll(content);
            present[file] = true;
            refresh(file);
        }

        void remove(int file) {
            if (!isFile(file)) {
                return;
            }
            rows[file].keep(0);
            present[file] = false;
            refresh(file);
        }

        /** Whoever changes the bytes of a file calls this, as NODES are always as files are now. */
        void refresh(int file) {
            if (!isFile(file)) {
                return;
            }
            nodes[FILES + file] = present[file] ? rows[file].digestOf(0, FILE_MOST) : 0;
            for (int n = (FILES + file) / 2; n >= ROOT; n /= 2) {
                nodes[n] = mixed(mixed(EMPTY_DIGEST, nodes[2 * n]), nodes[2 * n + 1]);
            }
        }

        /** The DIGEST goes on over the eight bytes of a number, the highest first. */
        private static long mixed(long digest, long number) {
            long h = digest;
            for (int shift = 56; shift >= 0; shift -= 8) {
                h = (h ^ (number >>> shift & 255)) * DIGEST_FACTOR;
            }
            return h;
        }
    }

    /** What outlives each RUN: which MESSAGES are to be LOST, and how many bytes were sent. */
    private static final class Line {
        /** Bit k - 1: the k-th MESSAGE from now on is told to be LOST. */
        private long told;
        private long byZero;
        private long byOne;

        int tellLoss(int k) {
            long bit = 1L << (k - 1);
            if ((told & bit) != 0) {
                return BAD;
            }
            if (Long.bitCount(told) >= TOLD_MOST) {
                return FULL;
            }
            told |= bit;
            return Long.bitCount(told);
        }

        long bytesBy(int end) {
            return end == 0 ? byZero : byOne;
        }

        /** Whether the MESSAGE comes. */
        boolean carry(int end, int bytes) {
            if (end == 0) {
                byZero += bytes;
            } else {
                byOne += bytes;
            }
            boolean comes = (told & 1) == 0;
            told >>>= 1;
            return comes;
        }
    }

    /** WEAK and STRONG of a file's whole blocks. */
    private static final class Sums {
        private final long[] weaks = new long[FILE_MOST];
        private final long[] strongs = new long[FILE_MOST];
        private int count;
        private int block;
        private int k;

        int count() {
            return count;
        }

        int block() {
            return block;
        }

        int k() {
            return k;
        }

        /** Of a file that is none (null) there are no blocks. */
        void fill(Row row, int newBlock, int newK) {
            block = newBlock;
            k = newK;
            count = 0;
            if (row == null) {
                return;
            }
            int from = 0;
            while (count < FILE_MOST && row.holds(from, block)) {
                weaks[count] = row.weakOf(from, block);
                strongs[count] = strong(row.digestOf(from, block), k);
                count++;
                from += block;
            }
        }

        void copyFrom(Sums other) {
            block = other.block;
            k = other.k;
            count = other.count;
            System.arraycopy(other.weaks, 0, weaks, 0, count);
            System.arraycopy(other.strongs, 0, strongs, 0, count);
        }

        long sumOf(int i, int what) {
            if (i < 0 || i >= count || what < 0 || what > 1) {
                return BAD;
            }
            return what == 0 ? weaks[i] : strongs[i];
        }

        boolean hasWeak(long weak) {
            for (int i = 0; i < count; i++) {
                if (weaks[i] == weak) {
                    return true;
                }
            }
            return false;
        }

        /** The first block with both; NO: none. */
        int find(long weak, long strong) {
            for (int i = 0; i < count; i++) {
                if (weaks[i] == weak && strongs[i] == strong) {
                    return i;
                }
            }
            return NO;
        }
    }

    /** The one MESSAGE that is under way: it is kept as it was made, to be sent again if LOST. */
    private static final class Message {
        final Row bytes = new Row(BYTES_MOST);
        final Sums sums = new Sums();
        /** NO: none was made yet. */
        int kind = NO;
        int length;
        /** The number of a NODE, a file or a block. */
        int subject;
        long digest;

        void become(int newKind, int newLength) {
            kind = newKind;
            length = newLength;
        }

        boolean isByTarget() {
            return kind == ASK || kind == SUMS || kind == ANSWER;
        }
    }

    /** SOURCE's part of a RUN. */
    private static final class Sender {
        /** The latest that came; they are told even when a new RUN has begun. */
        private final Sums sums = new Sums();
        private Side side;
        private int file;
        private int place;
        private int meets;
        private int falseMeets;

        Sender(Side side) {
            this.side = side;
        }

        void start(Side newSide) {
            side = newSide;
            meets = 0;
            falseMeets = 0;
        }

        void takeSums(int newFile, Sums came) {
            sums.copyFrom(came);
            file = newFile;
            place = 0;
        }

        void makeNode(Message message) {
            message.become(NODE, 10);
            message.digest = side.digestAt(message.subject);
        }

        /** What follows SUMS, BYTES or a BLOCK, which the MESSAGE still is. */
        void makeNext(Message message) {
            Row row = side.existing(file);
            if (row == null && message.kind == SUMS) {
                message.become(GONE, 1);
            } else if (row == null || place >= row.count()) {
                message.become(END, 11);
                message.digest = row == null ? EMPTY_DIGEST : row.digestOf(0, FILE_MOST);
            } else {
                makePart(message, row);
            }
        }

        private void makePart(Message message, Row row) {
            int found = look(row);
            if (found != NO) {
                message.become(BLOCK, 4);
                message.subject = found;
                place += sums.block();
                return;
            }
            Row bytes = message.bytes;
            bytes.keep(0);
            for (int i = 1; i <= BYTES_MOST && found == NO && place < row.count(); i++) {
                bytes.add(row.get(place));
                place++;
                // a LOOK behind the last one would count a MEET that the document does not have
                if (i < BYTES_MOST) {
                    found = look(row);
                }
            }
            message.become(BYTES, 2 + bytes.count());
        }

        /** The block that a LOOK finds at the place; NO: none. */
        private int look(Row row) {
            int block = sums.block();
            if (!row.holds(place, block)) {
                return NO;
            }
            long weak = row.weakOf(place, block);
            if (!sums.hasWeak(weak)) {
                return NO;
            }
            meets++;
            int found = sums.find(weak, strong(row.digestOf(place, block), sums.k()));
            if (found == NO) {
                falseMeets++;
            }
            return found;
        }
    }

    /** TARGET's part of a RUN. */
    private static final class Receiver {
        private final int[] waiting = new int[NODES];
        private final boolean[] toDo = new boolean[FILES];
        private final boolean[] dropLater = new boolean[FILES];
        private final Row built = new Row(FILE_MOST);
        private Side side;
        private int waitingCount;
        private int block;
        private int firstK;
        private int rule;
        /** The file of the latest SUMS; NO: none yet. */
        private int file = NO;
        private int k;
        private int tries;
        private int done;
        private int left;
        private int triesOver;
        private int blocksCame;
        private int bytesCame;

        Receiver(Side side) {
            this.side = side;
        }

        void start(Side newSide, int newBlock, int newK, int newRule) {
            side = newSide;
            block = newBlock;
            firstK = newK;
            rule = newRule;
            for (int i = 0; i < FILES; i++) {
                toDo[i] = false;
                dropLater[i] = false;
            }
            waitingCount = 0;
            putToWait(ROOT);
            forgetBuilt();
            file = NO;
            done = 0;
            left = 0;
            triesOver = 0;
            blocksCame = 0;
            bytesCame = 0;
        }

        boolean wantsMore() {
            return waitingCount > 0 || leastToDo() != NO;
        }

        int toDoCount() {
            int count = 0;
            for (int i = 0; i < FILES; i++) {
                count += toDo[i] ? 1 : 0;
            }
            return count;
        }

        /** ASK while a NODE waits, then SUMS. */
        void makeNext(Message message) {
            if (waitingCount > 0 && waitingCount <= NODES) {
                waitingCount--;
                message.become(ASK, 2);
                message.subject = waiting[waitingCount];
                return;
            }
            int next = leastToDo();
            // a file that is TO DO behind its own ANSWER has a further TRY, which keeps the new k
            if (next != file) {
                file = next;
                k = firstK;
                tries = 0;
            }
            forgetBuilt();
            message.sums.fill(side.existing(file), block, k);
            message.become(SUMS, 6 + (4 + k) * message.sums.count());
            message.subject = file;
        }

        void takeNode(int n, long digest) {
            if (side.digestAt(n) == digest) {
                return;
            }
            if (n < FILES) {
                putToWait(2 * n + 1);
                putToWait(2 * n);
            } else if (n < NODES) {
                toDo[n - FILES] = true;
            }
        }

        void takeGone() {
            settle();
            if (rule == RULE_DROP_NOW) {
                side.remove(file);
            } else if (rule == RULE_DROP_LATER && isFile(file)) {
                dropLater[file] = true;
            }
        }

        void takeBytes(Row bytes) {
            bytesCame += bytes.count();
            built.addAll(bytes);
        }

        /** The own file may have changed since the SUMS: what is left of the block there is put. */
        void takeBlock(int number) {
            blocksCame++;
            Row own = side.existing(file);
            if (own == null) {
                return;
            }
            int from = number * block;
            for (int i = from; i < from + block && i < own.count(); i++) {
                built.add(own.get(i));
            }
        }

        void takeEnd(long digest) {
            if (built.digestOf(0, FILE_MOST) == digest) {
                side.replace(file, built);
                done++;
                settle();
                return;
            }
            triesOver++;
            tries++;
            k = Math.min(K_MOST, 2 * k);
            if (tries >= TRIES_MOST) {
                left++;
                settle();
            }
        }

        void dropTold() {
            for (int i = 0; i < FILES; i++) {
                if (dropLater[i]) {
                    side.remove(i);
                }
            }
        }

        void forgetBuilt() {
            built.keep(0);
        }

        private void settle() {
            if (isFile(file)) {
                toDo[file] = false;
            }
        }

        private void putToWait(int n) {
            if (waitingCount >= 0 && waitingCount < NODES) {
                waiting[waitingCount] = n;
                waitingCount++;
            }
        }

        private int leastToDo() {
            for (int i = 0; i < FILES; i++) {
                if (toDo[i]) {
                    return i;
                }
            }
            return NO;
        }
    }

    /** The latest RUN: whose turn it is, what was lost, and what is counted. */
    private static final class Run {
        private final Side zero;
        private final Side one;
        private final Line line;
        private final Sender sender;
        private final Receiver receiver;
        private final Message message = new Message();
        private int phase = NO_RUN;
        private int source;
        private boolean lost;
        private int silentSteps;
        private int steps;
        private int messages;
        private int lostMessages;
        private int latestK;
        private int latestKind = NO;

        Run(Side zero, Side one, Line line) {
            this.zero = zero;
            this.one = one;
            this.line = line;
            sender = new Sender(zero);
            receiver = new Receiver(one);
        }

        boolean goes() {
            return phase == GOES;
        }

        void start(int newSource, int block, int k, int rule) {
            phase = GOES;
            source = newSource;
            sender.start(source == 0 ? zero : one);
            receiver.start(source == 0 ? one : zero, block, k, rule);
            message.become(NO, 0);
            lost = false;
            silentSteps = 0;
            steps = 0;
            messages = 0;
            lostMessages = 0;
            latestK = 0;
            latestKind = NO;
        }

        int stop() {
            phase = CUT;
            receiver.forgetBuilt();
            return steps;
        }

        void oneStep() {
            steps++;
            if (silentSteps > 0) {
                silentSteps--;
                return;
            }
            if (!lost) {
                makeMessage();
            }
            emit();
            if (lost) {
                lostMessages++;
                silentSteps = SILENT_STEPS;
            } else {
                takeMessage();
                finishIfNothingFollows();
            }
        }

        int tell(int what) {
            switch (what) {
                case 0: return phase;
                case 1: return steps;
                case 2: return messages;
                case 3: return lostMessages;
                case 4: return receiver.toDoCount();
                case 5: return receiver.done;
                case 6: return receiver.left;
                case 7: return receiver.triesOver;
                case 8: return receiver.blocksCame;
                case 9: return receiver.bytesCame;
                case 10: return sender.meets;
                case 11: return sender.falseMeets;
                case 12: return latestK;
                case 13: return receiver.built.count();
                case 14: return latestKind;
                case 15: return receiver.waitingCount;
                default: return BAD;
            }
        }

        int builtByte(int i) {
            return receiver.built.get(i);
        }

        long sumOf(int i, int what) {
            return sender.sums.sumOf(i, what);
        }

        /** Turns the MESSAGE that came into the one that is sent behind it. */
        private void makeMessage() {
            switch (message.kind) {
                case ASK:
                    sender.makeNode(message);
                    break;
                case SUMS:
                case BYTES:
                case BLOCK:
                    sender.makeNext(message);
                    break;
                case END:
                    message.become(ANSWER, 1);
                    break;
                default:
                    receiver.makeNext(message);
            }
        }

        private void emit() {
            messages++;
            latestKind = message.kind;
            if (message.kind == SUMS) {
                latestK = message.sums.k();
            }
            lost = !line.carry(message.isByTarget() ? 1 - source : source, message.length);
        }

        private void takeMessage() {
            switch (message.kind) {
                case NODE:
                    receiver.takeNode(message.subject, message.digest);
                    break;
                case SUMS:
                    sender.takeSums(message.subject, message.sums);
                    break;
                case GONE:
                    receiver.takeGone();
                    break;
                case BYTES:
                    receiver.takeBytes(message.bytes);
                    break;
                case BLOCK:
                    receiver.takeBlock(message.subject);
                    break;
                case END:
                    receiver.takeEnd(message.digest);
                    break;
                default:
                    // ASK and ANSWER change nothing: what is sent behind them is all that follows
            }
        }

        private void finishIfNothingFollows() {
            boolean targetIsNext =
                message.kind == NODE || message.kind == GONE || message.kind == ANSWER;
            if (targetIsNext && !receiver.wantsMore()) {
                phase = OVER;
                receiver.dropTold();
                receiver.forgetBuilt();
            }
        }
    }
}
