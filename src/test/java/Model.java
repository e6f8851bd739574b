import java.util.ArrayDeque;
import java.util.ArrayList;
import java.util.Arrays;
import java.util.Deque;
import java.util.List;
import java.util.TreeSet;
import java.util.function.Supplier;

/**
 * The document told again with the Java library, to compare answers with: each MESSAGE knows what
 * follows when it comes, and that tells how the next one is made.
 */
final class Model {
    private static final int BAD = -1, NO = -2, FULL = -3;

    private record Message(int kind, int end, int size, Runnable comes) {
    }

    private record Sum(long weak, long strong) {
    }

    /** Bytes of each end's files; null: none. */
    private final int[][][] files = new int[2][8][];
    private final TreeSet<Long> toLose = new TreeSet<>();
    private final long[] sentBytes = new long[2];
    private long sendings;
    private List<Sum> cameSums = List.of();

    private final int[] states = new int[16];
    private int source;
    private int block;
    private int firstK;
    private int rule;
    private final Deque<Integer> waiting = new ArrayDeque<>();
    private final TreeSet<Integer> toDo = new TreeSet<>();
    private final TreeSet<Integer> goneLater = new TreeSet<>();
    private final List<Integer> building = new ArrayList<>();
    private int place;
    private Supplier<Message> next;
    private Message lost;
    private int silent;

    Model() {
        states[14] = NO;
    }

    int write(int end, int file, int at, long bytes, int n) {
        if (noSuch(end, file) || n < 0 || n > 8 || at < 0 || at > length(end, file)) {
            return BAD;
        }
        int size = Math.max(length(end, file), at + n);
        if (size > 500) {
            return FULL;
        }
        int[] old = files[end][file] == null ? new int[0] : files[end][file];
        int[] now = Arrays.copyOf(old, size);
        long rest = bytes;
        for (int i = at + n - 1; i >= at; i--) {
            now[i] = (int) (rest & 255);
            rest >>= 8;
        }
        files[end][file] = now;
        return size;
    }

    int again(int end, int file, int from, int n) {
        if (noSuch(end, file) || from < 0 || from >= length(end, file) || n < 0 || n > 500) {
            return BAD;
        }
        int size = length(end, file);
        if (size + n > 500) {
            return FULL;
        }
        int[] now = Arrays.copyOf(files[end][file], size + n);
        for (int i = 0; i < n; i++) {
            now[size + i] = now[from + i];
        }
        files[end][file] = now;
        return now.length;
    }

    int trim(int end, int file, int n) {
        if (noSuch(end, file) || files[end][file] == null || n < 0 || n > length(end, file)) {
            return BAD;
        }
        int had = length(end, file);
        files[end][file] = Arrays.copyOf(files[end][file], n);
        return had;
    }

    int drop(int end, int file) {
        if (noSuch(end, file) || files[end][file] == null) {
            return BAD;
        }
        int had = length(end, file);
        files[end][file] = null;
        return had;
    }

    int same(int end, int file) {
        if (noSuch(end, file)) {
            return BAD;
        }
        int[] other = files[1 - end][file];
        files[end][file] = other == null ? null : other.clone();
        return length(end, file);
    }

    int at(int end, int file, int i) {
        return noSuch(end, file) || i < 0 || i >= length(end, file) ? BAD : files[end][file][i];
    }

    int size(int end, int file) {
        if (noSuch(end, file)) {
            return BAD;
        }
        return files[end][file] == null ? NO : files[end][file].length;
    }

    long node(int end, int n) {
        if (end < 0 || end > 1 || n < 1 || n > 15) {
            return 0;
        }
        if (n >= 8) {
            return files[end][n - 8] == null ? 0 : digest(files[end][n - 8]);
        }
        long[] below = {node(end, 2 * n), node(end, 2 * n + 1)};
        int[] sixteen = new int[16];
        for (int i = 0; i < 16; i++) {
            sixteen[i] = (int) (below[i / 8] >>> (56 - 8 * (i % 8))) & 255;
        }
        return digest(sixteen);
    }

    int begin(int newSource, int newBlock, int k, int newRule) {
        boolean wrong = newSource < 0 || newSource > 1 || newBlock < 1 || newBlock > 64;
        if (wrong || k < 1 || k > 8 || newRule < 0 || newRule > 2) {
            return BAD;
        }
        if (states[0] == 1) {
            return NO;
        }
        source = newSource;
        block = newBlock;
        firstK = k;
        rule = newRule;
        Arrays.fill(states, 0);
        states[0] = 1;
        states[14] = NO;
        waiting.clear();
        waiting.push(1);
        toDo.clear();
        goneLater.clear();
        building.clear();
        lost = null;
        silent = 0;
        next = this::ask;
        return 1;
    }

    int step(int n) {
        if (n < 1 || n > 200) {
            return BAD;
        }
        if (states[0] != 1) {
            return NO;
        }
        int had = 0;
        while (had < n && states[0] == 1) {
            had++;
            states[1]++;
            if (silent > 0) {
                silent--;
            } else {
                send(lost == null ? next.get() : lost);
            }
        }
        return had;
    }

    int lose(int k) {
        if (k < 1 || k > 50 || toLose.contains(sendings + k)) {
            return BAD;
        }
        if (toLose.size() == 8) {
            return FULL;
        }
        toLose.add(sendings + k);
        return toLose.size();
    }

    int cut() {
        if (states[0] != 1) {
            return NO;
        }
        states[0] = 3;
        building.clear();
        return states[1];
    }

    int state(int what) {
        switch (what) {
            case 4: return toDo.size();
            case 13: return building.size();
            case 15: return waiting.size();
            default: return what < 0 || what > 15 ? BAD : states[what];
        }
    }

    long sent(int end) {
        return end < 0 || end > 1 ? BAD : sentBytes[end];
    }

    int built(int i) {
        return i < 0 || i >= building.size() ? BAD : building.get(i);
    }

    long sums(int i, int what) {
        if (i < 0 || i >= cameSums.size() || what < 0 || what > 1) {
            return BAD;
        }
        return what == 0 ? cameSums.get(i).weak() : cameSums.get(i).strong();
    }

    long weak(int end, int file, int at, int n) {
        if (noSuch(end, file) || n < 1 || n > 64 || at < 0 || at > length(end, file) - n) {
            return BAD;
        }
        return Told.weak(Arrays.copyOfRange(files[end][file], at, at + n));
    }

    private void send(Message message) {
        sendings++;
        states[2]++;
        states[14] = message.kind();
        sentBytes[message.end()] += message.size();
        if (toLose.remove(sendings)) {
            states[3]++;
            lost = message;
            silent = 2;
            return;
        }
        lost = null;
        message.comes().run();
        if (next == null) {
            states[0] = 2;
            goneLater.forEach(f -> files[1 - source][f] = null);
            building.clear();
        }
    }

    /** What TARGET sends when it has no answer to wait for; null: nothing. */
    private Supplier<Message> fromTarget() {
        if (!waiting.isEmpty()) {
            return this::ask;
        }
        return toDo.isEmpty() ? null : () -> sumsOf(toDo.first(), firstK, 0);
    }

    private Message ask() {
        int n = waiting.pop();
        return new Message(0, 1 - source, 2, () -> next = () -> nodeTold(n));
    }

    private Message nodeTold(int n) {
        long number = node(source, n);
        return new Message(1, source, 10, () -> {
            if (node(1 - source, n) != number && n >= 8) {
                toDo.add(n - 8);
            } else if (node(1 - source, n) != number) {
                waiting.push(2 * n + 1);
                waiting.push(2 * n);
            }
            next = fromTarget();
        });
    }

    private Message sumsOf(int f, int k, int tries) {
        List<Sum> sums = new ArrayList<>();
        for (int i = 0; i + block <= length(1 - source, f); i += block) {
            int[] bytes = Arrays.copyOfRange(files[1 - source][f], i, i + block);
            sums.add(new Sum(Told.weak(bytes), strong(bytes, k)));
        }
        building.clear();
        states[12] = k;
        return new Message(2, 1 - source, 6 + (4 + k) * sums.size(), () -> {
            cameSums = sums;
            place = 0;
            next = () -> files[source][f] == null ? gone(f) : part(f, k, tries);
        });
    }

    private Message gone(int f) {
        return new Message(3, source, 1, () -> {
            toDo.remove(f);
            if (rule == 1) {
                files[1 - source][f] = null;
            } else if (rule == 2) {
                goneLater.add(f);
            }
            next = fromTarget();
        });
    }

    private Message part(int f, int k, int tries) {
        if (place >= length(source, f)) {
            return endTold(f, k, tries);
        }
        int found = look(f, k);
        if (found >= 0) {
            place += block;
            return new Message(5, source, 4, () -> {
                states[8]++;
                for (int i = found * block; i < found * block + block; i++) {
                    if (i < length(1 - source, f)) {
                        building.add(files[1 - source][f][i]);
                    }
                }
                next = () -> part(f, k, tries);
            });
        }
        List<Integer> bytes = new ArrayList<>();
        do {
            bytes.add(files[source][f][place++]);
        } while (bytes.size() < 16 && place < length(source, f) && look(f, k) < 0);
        return new Message(4, source, 2 + bytes.size(), () -> {
            states[9] += bytes.size();
            building.addAll(bytes);
            next = () -> part(f, k, tries);
        });
    }

    private int look(int f, int k) {
        if (place + block > length(source, f)) {
            return -1;
        }
        int[] bytes = Arrays.copyOfRange(files[source][f], place, place + block);
        long weak = Told.weak(bytes);
        if (cameSums.stream().noneMatch(sum -> sum.weak() == weak)) {
            return -1;
        }
        states[10]++;
        int found = cameSums.indexOf(new Sum(weak, strong(bytes, k)));
        states[11] += found < 0 ? 1 : 0;
        return found;
    }

    private Message endTold(int f, int k, int tries) {
        long digest = digest(files[source][f] == null ? new int[0] : files[source][f]);
        return new Message(6, source, 11, () -> {
            int[] now = building.stream().mapToInt(i -> i).toArray();
            boolean is = digest(now) == digest;
            if (is) {
                files[1 - source][f] = now;
                states[5]++;
            } else {
                states[7]++;
                states[6] += tries == 2 ? 1 : 0;
            }
            boolean once = !is && tries < 2;
            if (!once) {
                toDo.remove(f);
            }
            next = () -> new Message(7, 1 - source, 1, () -> next =
                once ? () -> sumsOf(f, Math.min(8, 2 * k), tries + 1) : fromTarget());
        });
    }

    private int length(int end, int file) {
        return files[end][file] == null ? 0 : files[end][file].length;
    }

    private static boolean noSuch(int end, int file) {
        return end < 0 || end > 1 || file < 0 || file > 7;
    }

    private static long digest(int[] bytes) {
        long h = Told.EMPTY;
        for (int b : bytes) {
            h = (h ^ b) * 1099511628211L;
        }
        return h;
    }

    private static long strong(int[] bytes, int k) {
        // in two shifts, as one by 64 would be none
        return k == 8 ? digest(bytes) : digest(bytes) << (64 - 8 * k) >>> (64 - 8 * k);
    }
}
