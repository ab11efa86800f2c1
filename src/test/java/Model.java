import java.util.ArrayList;
import java.util.List;

/**
 * The document once more, in another build: bytes one by one, lost values by trying all of them,
 * a request as a list of acts that are then carried out one after another.
 */
final class Model {
    private static final int PRESENT = 0;
    private static final int MISSING = 1;
    private static final int REBUILDING = 2;

    final int n;
    final int stripes;
    private int spares;
    private final int[] state;
    private final int[] at;
    private final int[][] cells;
    private boolean down;
    private int armed = -1;
    private int reads;
    private int writes;
    private int[] entry;
    private int entryStripe = -1;
    private int entryFirst;
    private int entryCount;

    Model(int disks, int stripes, int spares) {
        this.n = disks < 4 ? 4 : disks > 10 ? 10 : disks;
        this.stripes = stripes < 1 ? 1 : stripes > 16 ? 16 : stripes;
        this.spares = spares < 0 ? 0 : spares > 4 ? 4 : spares;
        this.state = new int[n];
        this.at = new int[n];
        this.cells = new int[this.stripes][n];
    }

    private static int doubleByte(int x) {
        return x < 128 ? 2 * x : (2 * x - 256) ^ 29;
    }

    private static int timesByte(int i, int x) {
        return i == 0 ? x : timesByte(i - 1, doubleByte(x));
    }

    private static int lane(int word, int lane) {
        return (word >>> (8 * lane)) & 255;
    }

    private static int times(int i, int word) {
        int result = 0;
        for (int lane = 0; lane < 4; lane++) {
            result |= timesByte(i, lane(word, lane)) << (8 * lane);
        }
        return result;
    }

    private int next(int d) {
        return d == n - 1 ? 0 : d + 1;
    }

    private int diskP(int s) {
        return n - 1 - (s % n);
    }

    private int diskQ(int s) {
        return next(diskP(s));
    }

    private int diskColumn(int s, int column) {
        int d = next(diskQ(s));
        for (int i = 0; i < column; i++) {
            d = next(d);
        }
        return d;
    }

    private boolean available(int d, int s) {
        return state[d] == PRESENT || (state[d] == REBUILDING && at[d] > s);
    }

    private int availableIn(int s) {
        int found = 0;
        for (int d = 0; d < n; d++) {
            found += available(d, s) ? 1 : 0;
        }
        return found;
    }

    private boolean broken() {
        int found = 0;
        for (int d = 0; d < n; d++) {
            found += state[d] == PRESENT ? 0 : 1;
        }
        return found >= 3;
    }

    private int sum(int[] byDisk, int s) {
        int result = 0;
        for (int column = 0; column < n - 2; column++) {
            result ^= byDisk[diskColumn(s, column)];
        }
        return result;
    }

    private int weighted(int[] byDisk, int s) {
        int result = 0;
        for (int column = 0; column < n - 2; column++) {
            result ^= times(column, byDisk[diskColumn(s, column)]);
        }
        return result;
    }

    /** The values of a stripe, by disks. */
    private int[] values(int s) {
        int[] v = cells[s].clone();
        List<Integer> lost = new ArrayList<>();
        for (int column = 0; column < n - 2; column++) {
            if (!available(diskColumn(s, column), s)) {
                lost.add(column);
                v[diskColumn(s, column)] = 0;
            }
        }
        int p = v[diskP(s)] ^ sum(v, s);
        int q = v[diskQ(s)] ^ weighted(v, s);
        if (lost.size() == 1) {
            boolean byFirst = available(diskP(s), s);
            v[diskColumn(s, lost.get(0))] = byFirst ? p : tried(lost.get(0), q);
        } else if (lost.size() == 2) {
            int x = triedPair(lost.get(0), lost.get(1), p, q);
            v[diskColumn(s, lost.get(0))] = x;
            v[diskColumn(s, lost.get(1))] = p ^ x;
        }
        if (!available(diskP(s), s)) {
            v[diskP(s)] = sum(v, s);
        }
        if (!available(diskQ(s), s)) {
            v[diskQ(s)] = weighted(v, s);
        }
        return v;
    }

    private static int tried(int i, int q) {
        int result = 0;
        for (int lane = 0; lane < 4; lane++) {
            for (int x = 0; x < 256; x++) {
                if (timesByte(i, x) == lane(q, lane)) {
                    result |= x << (8 * lane);
                }
            }
        }
        return result;
    }

    private static int triedPair(int i, int j, int p, int q) {
        int result = 0;
        for (int lane = 0; lane < 4; lane++) {
            for (int x = 0; x < 256; x++) {
                int y = lane(p, lane) ^ x;
                if ((timesByte(i, x) ^ timesByte(j, y)) == lane(q, lane)) {
                    result |= x << (8 * lane);
                }
            }
        }
        return result;
    }

    /** Carries out acts; the number of those made, all of them unless the array stopped. */
    private int act(List<Runnable> acts) {
        int made = 0;
        for (Runnable act : acts) {
            if (armed == 0) {
                armed = -1;
                down = true;
                return made;
            }
            armed = armed > 0 ? armed - 1 : armed;
            act.run();
            made++;
        }
        return made;
    }

    private Runnable cellAct(int d, int s, int word) {
        return () -> {
            cells[s][d] = word;
            writes++;
        };
    }

    private int refusal() {
        return down ? DualParityArray.DOWN : broken() ? DualParityArray.BROKEN : 0;
    }

    private boolean isBlock(long block) {
        return block >= 0 && block < (long) stripes * (n - 2);
    }

    private static long wide(int word) {
        return Integer.toUnsignedLong(word);
    }

    long read(int block) {
        if (!isBlock(block)) {
            return DualParityArray.BAD;
        }
        if (refusal() != 0) {
            return refusal();
        }
        int s = block / (n - 2);
        int d = diskColumn(s, block % (n - 2));
        reads += available(d, s) ? 1 : availableIn(s);
        return wide(values(s)[d]);
    }

    long writeRun(int block, int count, int v) {
        if (count < 1 || !isBlock(block) || !isBlock((long) block + count - 1)) {
            return DualParityArray.BAD;
        }
        if (refusal() != 0) {
            return refusal();
        }
        int total = 0;
        int done = 0;
        while (done < count) {
            int s = (block + done) / (n - 2);
            int first = (block + done) % (n - 2);
            int t = Math.min(count - done, n - 2 - first);
            List<Runnable> acts = writing(s, first, t, v + done);
            int made = act(acts);
            if (made < acts.size()) {
                return DualParityArray.TORN;
            }
            total += made;
            done += t;
        }
        return total;
    }

    private List<Runnable> writing(int s, int first, int t, int v) {
        int[] old = values(s);
        int[] fresh = old.clone();
        for (int i = 0; i < t; i++) {
            fresh[diskColumn(s, first + i)] = v + i;
        }
        fresh[diskP(s)] = sum(fresh, s);
        fresh[diskQ(s)] = weighted(fresh, s);
        if (availableIn(s) < n) {
            reads += availableIn(s);
        } else if (t + 2 < n - 2 - t) {
            reads += t + 2;
            fresh[diskP(s)] ^= old[diskP(s)] ^ sum(old, s);
            fresh[diskQ(s)] ^= old[diskQ(s)] ^ weighted(old, s);
        } else {
            reads += n - 2 - t;
        }
        List<Runnable> acts = new ArrayList<>();
        for (int i = 0; i < t + 2; i++) {
            acts.add(() -> { });
        }
        acts.add(() -> {
            entry = fresh;
            entryStripe = s;
            entryFirst = first;
            entryCount = t;
        });
        acts.addAll(entryActs(s, first, t, fresh));
        return acts;
    }

    private List<Runnable> entryActs(int s, int first, int t, int[] words) {
        List<Integer> order = new ArrayList<>();
        for (int i = 0; i < t; i++) {
            order.add(diskColumn(s, first + i));
        }
        order.add(diskP(s));
        order.add(diskQ(s));
        List<Runnable> acts = new ArrayList<>();
        for (int d : order) {
            if (available(d, s)) {
                acts.add(cellAct(d, s, words[d]));
            }
        }
        acts.add(() -> entryStripe = -1);
        return acts;
    }

    private boolean isDisk(int d) {
        return d >= 0 && d < n;
    }

    private boolean isStripe(int s) {
        return s >= 0 && s < stripes;
    }

    long fail(int d) {
        if (!isDisk(d) || state[d] == MISSING) {
            return 0;
        }
        state[d] = MISSING;
        return 1;
    }

    long replace(int d) {
        if (!isDisk(d) || state[d] != MISSING || spares == 0) {
            return 0;
        }
        state[d] = REBUILDING;
        at[d] = 0;
        spares--;
        return 1;
    }

    long rebuild() {
        if (refusal() != 0) {
            return refusal();
        }
        int best = -1;
        for (int d = n - 1; d >= 0; d--) {
            if (state[d] == REBUILDING && (best < 0 || at[d] <= at[best])) {
                best = d;
            }
        }
        if (best < 0) {
            return DualParityArray.IDLE;
        }
        int d = best;
        int s = at[d];
        reads += availableIn(s);
        List<Runnable> acts = new ArrayList<>();
        acts.add(cellAct(d, s, values(s)[d]));
        acts.add(() -> {
            at[d] = s + 1;
            state[d] = s == stripes - 1 ? PRESENT : REBUILDING;
        });
        return act(acts) < 2 ? DualParityArray.TORN : stripes - 1 - s;
    }

    long scrub(int s) {
        if (!isStripe(s)) {
            return DualParityArray.BAD;
        }
        if (refusal() != 0) {
            return refusal();
        }
        if (availableIn(s) < n) {
            return DualParityArray.DEGRADED;
        }
        reads += n;
        int[] word = cells[s];
        int p = word[diskP(s)] ^ sum(word, s);
        int q = word[diskQ(s)] ^ weighted(word, s);
        if (p == 0 && q == 0) {
            return 0;
        }
        int d = -1;
        for (int column = 0; column < n - 2; column++) {
            d = times(column, p) == q ? diskColumn(s, column) : d;
        }
        d = p == 0 ? diskQ(s) : q == 0 ? diskP(s) : d;
        if (d < 0) {
            return DualParityArray.UNSURE;
        }
        int mended = word[d] ^ (p == 0 ? q : p);
        return act(List.of(cellAct(d, s, mended))) < 1 ? DualParityArray.TORN : 1 + d;
    }

    long corrupt(int d, int s, int x) {
        if (!isDisk(d) || !isStripe(s) || !available(d, s)) {
            return 0;
        }
        cells[s][d] ^= x;
        return 1;
    }

    long arm(int k) {
        if (k < 0 || k > 1000) {
            return 0;
        }
        armed = k;
        return 1;
    }

    long crash() {
        if (down) {
            return 0;
        }
        down = true;
        armed = -1;
        return 1;
    }

    long restart() {
        if (!down) {
            return DualParityArray.UP;
        }
        if (broken()) {
            return DualParityArray.BROKEN;
        }
        int made = 0;
        if (entryStripe >= 0) {
            List<Runnable> acts = entryActs(entryStripe, entryFirst, entryCount, entry);
            made = act(acts);
            if (made < acts.size()) {
                return DualParityArray.TORN;
            }
        }
        down = false;
        return made;
    }

    long faults() {
        if (broken()) {
            return DualParityArray.BROKEN;
        }
        int found = 0;
        for (int s = 0; s < stripes; s++) {
            int[] v = values(s);
            found += v[diskP(s)] == sum(v, s) && v[diskQ(s)] == weighted(v, s) ? 0 : 1;
        }
        return found;
    }

    long peek(int d, int s) {
        return isDisk(d) && isStripe(s) && available(d, s) ? wide(cells[s][d]) : DualParityArray.BAD;
    }

    long locate(int block) {
        return isBlock(block) ? diskColumn(block / (n - 2), block % (n - 2)) : DualParityArray.BAD;
    }

    long position(int d) {
        if (!isDisk(d)) {
            return DualParityArray.BAD;
        }
        return state[d] == PRESENT ? stripes : state[d] == MISSING ? DualParityArray.GONE : at[d];
    }

    long mode() {
        return (down ? 1 : 0) + (broken() ? 2 : 0) + (armed >= 0 ? 4 : 0);
    }

    long logged() {
        return entryStripe;
    }

    long spares() {
        return spares;
    }

    long reads() {
        return reads;
    }

    long writes() {
        return writes;
    }
}
