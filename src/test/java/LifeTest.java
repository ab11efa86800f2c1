import java.util.Random;

/** "An object is used for at most 512 calls after it has been made": whole lives, beside the model to the last call. */
public final class LifeTest {
    private static final Due DUE = new Due("LifeTest");
    private static final int CALLS = 512;
    private static final int[][] SIZES = {{10, 16, 4}, {4, 16, 4}, {10, 1, 4}, {4, 1, 4}, {7, 5, 2}, {9, 3, 1}};
    private static final int LIVES_OF_A_SIZE = 25;
    // A third disk that is not PRESENT breaks the array for good: so they fail one at a time, far apart.
    private static final int CALLS_BETWEEN_FAILURES = 75;

    private final Random random;
    private final Pair pair;
    private int lastFailed;

    private LifeTest(int[] size, int seed) {
        this.random = new Random(seed);
        this.pair = new Pair(DUE, "life " + seed, size[0], size[1], size[2]);
    }

    public static void main(String[] args) {
        for (int[] size : SIZES) {
            for (int seed = 0; seed < LIVES_OF_A_SIZE; seed++) {
                new LifeTest(size, seed).live();
            }
        }
        readsAndWritesGoOnToTheLastCall();
        DUE.end();
    }

    private void live() {
        for (int call = 0; call < CALLS; call++) {
            if (call % CALLS_BETWEEN_FAILURES == CALLS_BETWEEN_FAILURES - 1) {
                lastFailed = random.nextInt(pair.disks());
                pair.fail(lastFailed);
            } else if (random.nextInt(2) == 0) {
                request();
            } else {
                look();
            }
        }
    }

    private void request() {
        int block = random.nextInt(pair.blocks());
        switch (random.nextInt(14)) {
            case 0, 1 -> pair.write(block, random.nextInt());
            case 2, 3 -> pair.writeRun(block, 1 + random.nextInt(pair.blocks() - block), random.nextInt());
            case 4 -> pair.replace(lastFailed);
            case 5, 6, 7 -> pair.rebuild();
            case 8 -> pair.scrub(random.nextInt(pair.stripes()));
            case 9 -> pair.corrupt(random.nextInt(pair.disks()), random.nextInt(pair.stripes()), random.nextInt());
            case 10 -> pair.arm(random.nextInt(100));
            default -> pair.restart();
        }
    }

    private void look() {
        int block = random.nextInt(pair.blocks());
        int d = random.nextInt(pair.disks());
        switch (random.nextInt(8)) {
            case 0, 1, 2 -> pair.read(block);
            case 3 -> pair.peek(d, random.nextInt(pair.stripes()));
            case 4 -> pair.position(d);
            case 5 -> pair.locate(block);
            default -> pair.lookAtOne(random.nextInt(6));
        }
    }

    /** The counts of a life of the dearest calls: ten disks, sixteen stripes, every block in each call. */
    private static void readsAndWritesGoOnToTheLastCall() {
        DualParityArray x = new DualParityArray(10, 16, 0);
        x.fail(0);
        for (int call = 2; call <= 508; call++) {
            // Ten words into the log, the seal, nine cells and the removal, in each stripe.
            DUE.is("writeRun, call " + call, x.writeRun(0, 128, call), 16 * 21);
        }
        DUE.is("reads(), call 509", x.reads(), 507 * 16 * 9);
        DUE.is("writes(), call 510", x.writes(), 507 * 16 * 9);
        DUE.is("faults(), call 511", x.faults(), 0);
        DUE.is("read(127), call 512", x.read(127), 508 + 127);
    }
}
