/**
 * An array of disks in which every stripe bears two parities, so that any two disks may be
 * missing; with a log that closes the write hole, rebuilding onto spares, and scrubbing.
 */
public final class DualParityArray {
    public static final int BAD = -1;
    public static final int DOWN = -2;
    public static final int BROKEN = -3;
    public static final int TORN = -4;
    public static final int IDLE = -5;
    public static final int DEGRADED = -6;
    public static final int UNSURE = -7;
    public static final int UP = -8;
    public static final int GONE = -9;

    private static final int LEAST_DISKS = 4;
    private static final int MOST_DISKS = 10;
    private static final int LEAST_STRIPES = 1;
    private static final int MOST_STRIPES = 16;
    private static final int MOST_SPARES = 4;
    private static final int MOST_ACTS_ARMED = 1000;

    private static final int NONE = -1;
    private static final int NOT_REFUSED = 0;
    private static final int NOT_ARMED = -1;

    private static final int MODE_DOWN = 1;
    private static final int MODE_BROKEN = 2;
    private static final int MODE_ARMED = 4;

    private final int stripeCount;
    private final int columnCount;
    private final Disks disks;
    private final Log log;
    // One row of values serves every call, so that no call makes an object.
    private final Stripe stripe;
    private int sparesLeft;
    private boolean down;
    private int actsUntilStop;
    private int actsMade;
    private int readCount;
    private int writeCount;

    public DualParityArray(int disks, int stripes, int spares) {
        int diskCount = within(disks, LEAST_DISKS, MOST_DISKS);
        this.stripeCount = within(stripes, LEAST_STRIPES, MOST_STRIPES);
        this.columnCount = diskCount - 2;
        this.disks = new Disks(diskCount, stripeCount);
        this.log = new Log(diskCount);
        this.stripe = new Stripe(diskCount);
        this.sparesLeft = within(spares, 0, MOST_SPARES);
        this.actsUntilStop = NOT_ARMED;
    }

    public long read(int block) {
        if (!hasBlock(block)) {
            return BAD;
        }
        int refusal = refusal();
        if (refusal != NOT_REFUSED) {
            return refusal;
        }
        int s = block / columnCount;
        int column = block % columnCount;
        int d = disks.diskOf(column, s);
        if (disks.available(d, s)) {
            readCount++;
            return unsigned(disks.wordAt(d, s));
        }
        readAvailableCells(s);
        return unsigned(stripe.valueOf(column));
    }

    public int write(int block, int v) {
        return writeRun(block, 1, v);
    }

    public int writeRun(int block, int count, int v) {
        if (!hasBlock(block) || count < 1 || count > blockCount() - block) {
            return BAD;
        }
        int refusal = refusal();
        if (refusal != NOT_REFUSED) {
            return refusal;
        }
        actsMade = 0;
        int end = block + count;
        int lastStripe = (end - 1) / columnCount;
        for (int s = block / columnCount; s <= lastStripe; s++) {
            int firstBlock = s * columnCount;
            int from = Math.max(block, firstBlock);
            int to = Math.min(end, firstBlock + columnCount);
            if (!writeColumns(s, from - firstBlock, to - from, v + (from - block))) {
                return TORN;
            }
        }
        return actsMade;
    }

    public boolean fail(int d) {
        if (!disks.hasDisk(d) || disks.missing(d)) {
            return false;
        }
        disks.remove(d);
        return true;
    }

    public boolean replace(int d) {
        if (!disks.hasDisk(d) || !disks.missing(d) || sparesLeft == 0) {
            return false;
        }
        sparesLeft--;
        disks.beginRebuilding(d);
        return true;
    }

    public int rebuild() {
        int refusal = refusal();
        if (refusal != NOT_REFUSED) {
            return refusal;
        }
        int d = disks.nextToRebuild();
        if (d == NONE) {
            return IDLE;
        }
        int s = disks.positionOf(d);
        readAvailableCells(s);
        if (!writeCell(d, s, stripe.valueOf(disks.slotOf(d, s)))) {
            return TORN;
        }
        if (!beginAct()) {
            return TORN;
        }
        disks.advance(d);
        return stripeCount - disks.positionOf(d);
    }

    public int scrub(int s) {
        if (!disks.hasStripe(s)) {
            return BAD;
        }
        int refusal = refusal();
        if (refusal != NOT_REFUSED) {
            return refusal;
        }
        if (!disks.allAvailable(s)) {
            return DEGRADED;
        }
        readAvailableCells(s);
        if (stripe.meetsBothEquations()) {
            return 0;
        }
        int slot = stripe.slotAtFault();
        if (slot == NONE) {
            return UNSURE;
        }
        int d = disks.diskOf(slot, s);
        if (!writeCell(d, s, stripe.mendedWord(slot))) {
            return TORN;
        }
        return 1 + d;
    }

    public boolean corrupt(int d, int s, int x) {
        if (!disks.hasCell(d, s) || !disks.available(d, s)) {
            return false;
        }
        disks.put(d, s, disks.wordAt(d, s) ^ x);
        return true;
    }

    public boolean arm(int k) {
        if (k < 0 || k > MOST_ACTS_ARMED) {
            return false;
        }
        actsUntilStop = k;
        return true;
    }

    public boolean crash() {
        if (down) {
            return false;
        }
        stop();
        return true;
    }

    public int restart() {
        if (!down) {
            return UP;
        }
        if (disks.broken()) {
            return BROKEN;
        }
        actsMade = 0;
        if (log.holdsEntry() && !carryOutEntry()) {
            return TORN;
        }
        down = false;
        return actsMade;
    }

    public int faults() {
        if (disks.broken()) {
            return BROKEN;
        }
        int found = 0;
        for (int s = 0; s < stripeCount; s++) {
            stripe.load(disks, s);
            if (!stripe.meetsBothEquations()) {
                found++;
            }
        }
        return found;
    }

    public long peek(int d, int s) {
        if (!disks.hasCell(d, s) || !disks.available(d, s)) {
            return BAD;
        }
        return unsigned(disks.wordAt(d, s));
    }

    public int locate(int block) {
        if (!hasBlock(block)) {
            return BAD;
        }
        return disks.diskOf(block % columnCount, block / columnCount);
    }

    public int position(int d) {
        if (!disks.hasDisk(d)) {
            return BAD;
        }
        return disks.missing(d) ? GONE : disks.positionOf(d);
    }

    public int mode() {
        int sum = down ? MODE_DOWN : 0;
        if (disks.broken()) {
            sum += MODE_BROKEN;
        }
        if (actsUntilStop != NOT_ARMED) {
            sum += MODE_ARMED;
        }
        return sum;
    }

    public int logged() {
        return log.sealedStripe();
    }

    public int spares() {
        return sparesLeft;
    }

    public int reads() {
        return readCount;
    }

    public int writes() {
        return writeCount;
    }

    private static int within(int n, int least, int most) {
        return Math.max(least, Math.min(most, n));
    }

    private static long unsigned(int word) {
        return word & 0xFFFFFFFFL;
    }

    private int blockCount() {
        return stripeCount * columnCount;
    }

    private boolean hasBlock(int block) {
        return block >= 0 && block < blockCount();
    }

    private int refusal() {
        if (down) {
            return DOWN;
        }
        return disks.broken() ? BROKEN : NOT_REFUSED;
    }

    private void readAvailableCells(int s) {
        stripe.load(disks, s);
        readCount += disks.countAvailable(s);
    }

    /** False when the array stopped in place of the act. */
    private boolean beginAct() {
        if (actsUntilStop == 0) {
            stop();
            return false;
        }
        if (actsUntilStop != NOT_ARMED) {
            actsUntilStop--;
        }
        actsMade++;
        return true;
    }

    private void stop() {
        down = true;
        actsUntilStop = NOT_ARMED;
    }

    private boolean writeCell(int d, int s, int word) {
        if (!beginAct()) {
            return false;
        }
        disks.put(d, s, word);
        writeCount++;
        return true;
    }

    /** Gives columns of stripe s, from first on, the words v, v + 1, ..; false when the array stopped. */
    private boolean writeColumns(int s, int first, int count, int v) {
        int others = columnCount - count;
        stripe.load(disks, s);
        if (!disks.allAvailable(s)) {
            readCount += disks.countAvailable(s);
            stripe.setColumns(first, count, v);
        } else if (count + 2 < others) {
            readCount += count + 2;
            stripe.changeColumns(first, count, v);
        } else {
            readCount += others;
            stripe.setColumns(first, count, v);
        }
        return logColumns(s, first, count) && carryOutEntry();
    }

    private boolean logColumns(int s, int first, int count) {
        // Words that are not sealed can't be seen, so the acts that put them there need only be counted.
        for (int i = 0; i < count + 2; i++) {
            if (!beginAct()) {
                return false;
            }
        }
        if (!beginAct()) {
            return false;
        }
        log.seal(s, first, count, stripe);
        return true;
    }

    private boolean carryOutEntry() {
        int s = log.sealedStripe();
        for (int slot = 0; slot < columnCount + 2; slot++) {
            int d = disks.diskOf(slot, s);
            if (log.bears(slot) && disks.available(d, s) && !writeCell(d, s, log.wordOf(slot))) {
                return false;
            }
        }
        if (!beginAct()) {
            return false;
        }
        log.clear();
        return true;
    }

    /** Words as four bytes each; a byte is a number of the field with 256 elements. */
    private static final class Words {
        private static final int LOW_SEVEN_BITS = 0x7F7F7F7F;
        private static final int LOW_BITS = 0x01010101;
        private static final int DOUBLED_128 = 29;
        // The byte whose double is 1.
        private static final int HALF_OF_1 = 142;
        // At k the byte which, times 1 + 2^k, is 1; at 0, where there is none, 0.
        private static final int[] INVERSES_OF_1_PLUS_POWER = {0, 244, 167, 157, 114, 237, 95, 84};

        static int doubled(int word) {
            return ((word & LOW_SEVEN_BITS) << 1) ^ (((word >>> 7) & LOW_BITS) * DOUBLED_128);
        }

        static int halved(int word) {
            return ((word >>> 1) & LOW_SEVEN_BITS) ^ ((word & LOW_BITS) * HALF_OF_1);
        }

        static int timesPower(int i, int word) {
            int result = word;
            for (int n = 0; n < i; n++) {
                result = doubled(result);
            }
            return result;
        }

        static int dividedByPower(int i, int word) {
            int result = word;
            for (int n = 0; n < i; n++) {
                result = halved(result);
            }
            return result;
        }

        /** The word which, times 1 + 2^k, is the given one; k is 1 .. 7. */
        static int dividedBy1PlusPower(int k, int word) {
            int factor = INVERSES_OF_1_PLUS_POWER[k & 7];
            int term = word;
            int result = 0;
            for (int bit = 0; bit < 8; bit++) {
                if (((factor >>> bit) & 1) != 0) {
                    result ^= term;
                }
                term = doubled(term);
            }
            return result;
        }
    }

    /**
     * The disks with their cells. A stripe's cells are numbered by SLOTS: its columns from 0 on,
     * then P, then Q; so they lie on the disks in a row that begins behind Q.
     */
    private static final class Disks {
        private static final int MISSING = -1;

        private final int count;
        private final int stripes;
        private final int[] words;
        // A PRESENT disk has the position behind the last stripe, a MISSING one a position before
        // the first: so a cell is available just when its disk's position is greater than its stripe.
        private final int[] positions;

        Disks(int count, int stripes) {
            this.count = count;
            this.stripes = stripes;
            this.words = new int[count * stripes];
            this.positions = new int[count];
            for (int d = 0; d < count; d++) {
                positions[d] = stripes;
            }
        }

        boolean hasDisk(int d) {
            return d >= 0 && d < count;
        }

        boolean hasStripe(int s) {
            return s >= 0 && s < stripes;
        }

        boolean hasCell(int d, int s) {
            return hasDisk(d) && hasStripe(s);
        }

        int diskOf(int slot, int s) {
            return (diskOfP(s) + 2 + slot) % count;
        }

        int slotOf(int d, int s) {
            return (d + 2 * count - 2 - diskOfP(s)) % count;
        }

        private int diskOfP(int s) {
            return count - 1 - s % count;
        }

        boolean available(int d, int s) {
            return positions[d] > s;
        }

        int countAvailable(int s) {
            int found = 0;
            for (int d = 0; d < count; d++) {
                if (available(d, s)) {
                    found++;
                }
            }
            return found;
        }

        boolean allAvailable(int s) {
            return countAvailable(s) == count;
        }

        boolean broken() {
            int notPresent = 0;
            for (int d = 0; d < count; d++) {
                if (positions[d] < stripes) {
                    notPresent++;
                }
            }
            return notPresent > 2;
        }

        boolean missing(int d) {
            return positions[d] == MISSING;
        }

        int positionOf(int d) {
            return positions[d];
        }

        void remove(int d) {
            positions[d] = MISSING;
        }

        void beginRebuilding(int d) {
            positions[d] = 0;
        }

        void advance(int d) {
            positions[d]++;
        }

        int nextToRebuild() {
            int next = NONE;
            int least = stripes;
            for (int d = 0; d < count; d++) {
                if (!missing(d) && positions[d] < least) {
                    next = d;
                    least = positions[d];
                }
            }
            return next;
        }

        int wordAt(int d, int s) {
            return words[d * stripes + s];
        }

        void put(int d, int s, int word) {
            words[d * stripes + s] = word;
        }
    }

    /** The values of one stripe, by slots. */
    private static final class Stripe {
        private final int columns;
        private final int slotP;
        private final int slotQ;
        private final int[] values;

        Stripe(int cells) {
            this.columns = cells - 2;
            this.slotP = cells - 2;
            this.slotQ = cells - 1;
            this.values = new int[cells];
        }

        int valueOf(int slot) {
            return values[slot];
        }

        /** Takes the values of stripe s, of which at most two cells are not available. */
        void load(Disks disks, int s) {
            int firstLost = NONE;
            int secondLost = NONE;
            for (int slot = 0; slot < values.length; slot++) {
                int d = disks.diskOf(slot, s);
                boolean available = disks.available(d, s);
                values[slot] = available ? disks.wordAt(d, s) : 0;
                if (!available && firstLost == NONE) {
                    firstLost = slot;
                } else if (!available) {
                    secondLost = slot;
                }
            }
            restoreColumns(firstLost, secondLost);
            if (firstLost == slotP || secondLost == slotP) {
                meetFirstEquation();
            }
            if (firstLost == slotQ || secondLost == slotQ) {
                meetSecondEquation();
            }
        }

        /** Finds the values of lost columns, which stand as 0 so far; the slots are in ascending order. */
        private void restoreColumns(int firstLost, int secondLost) {
            if (firstLost == NONE || firstLost >= columns) {
                return;
            }
            if (secondLost == NONE || secondLost == slotQ) {
                values[firstLost] = firstGap();
                return;
            }
            int q = Words.dividedByPower(firstLost, secondGap());
            if (secondLost == slotP) {
                values[firstLost] = q;
                return;
            }
            // With x and y for columns i and j the equations ask x + y = p and 2^i x + 2^j y = 2^i q;
            // so p + q = (1 + 2^(j - i)) y.
            int p = firstGap();
            int y = Words.dividedBy1PlusPower(secondLost - firstLost, p ^ q);
            values[firstLost] = p ^ y;
            values[secondLost] = y;
        }

        /** P plus the sum of all columns. */
        private int firstGap() {
            int result = values[slotP];
            for (int i = 0; i < columns; i++) {
                result ^= values[i];
            }
            return result;
        }

        /** Q plus the sum of 2^i times column i for all columns i. */
        private int secondGap() {
            int sum = 0;
            for (int i = columns - 1; i >= 0; i--) {
                sum = Words.doubled(sum) ^ values[i];
            }
            return values[slotQ] ^ sum;
        }

        private void meetFirstEquation() {
            values[slotP] ^= firstGap();
        }

        private void meetSecondEquation() {
            values[slotQ] ^= secondGap();
        }

        boolean meetsBothEquations() {
            return firstGap() == 0 && secondGap() == 0;
        }

        /** The one slot whose fault explains both gaps, which are not both 0; NONE if there is none. */
        int slotAtFault() {
            int p = firstGap();
            int q = secondGap();
            if (q == 0) {
                return slotP;
            }
            if (p == 0) {
                return slotQ;
            }
            for (int i = 0; i < columns; i++) {
                if (Words.timesPower(i, p) == q) {
                    return i;
                }
            }
            return NONE;
        }

        int mendedWord(int slot) {
            return values[slot] ^ (slot == slotQ ? secondGap() : firstGap());
        }

        /** Gives columns new words and makes P and Q anew from all columns. */
        void setColumns(int first, int count, int v) {
            for (int i = 0; i < count; i++) {
                values[first + i] = v + i;
            }
            meetFirstEquation();
            meetSecondEquation();
        }

        /** Gives columns new words and adds their differences to P and Q, which keep a gap that they had. */
        void changeColumns(int first, int count, int v) {
            for (int i = 0; i < count; i++) {
                int column = first + i;
                int difference = values[column] ^ (v + i);
                values[column] = v + i;
                values[slotP] ^= difference;
                values[slotQ] ^= Words.timesPower(column, difference);
            }
        }
    }

    /** The log, with room for one sealed entry; its words stand by slots. */
    private static final class Log {
        private final int[] words;
        private int stripe;
        private int firstColumn;
        private int columnCount;

        Log(int cells) {
            this.words = new int[cells];
            this.stripe = NONE;
        }

        boolean holdsEntry() {
            return stripe != NONE;
        }

        int sealedStripe() {
            return stripe;
        }

        void seal(int s, int first, int count, Stripe values) {
            stripe = s;
            firstColumn = first;
            columnCount = count;
            for (int slot = 0; slot < words.length; slot++) {
                words[slot] = values.valueOf(slot);
            }
        }

        boolean bears(int slot) {
            boolean parity = slot >= words.length - 2;
            return parity || (slot >= firstColumn && slot < firstColumn + columnCount);
        }

        int wordOf(int slot) {
            return words[slot];
        }

        void clear() {
            stripe = NONE;
        }
    }
}
