import java.util.Random;

/** All promises: runs of calls, chosen by chance from fixed seeds, on the class and on the model beside it. */
public final class ModelTest {
    private static final Due DUE = new Due("ModelTest");
    private static final int RUNS = 6000;
    // With what looks at the object these are less than the 512 calls that it has.
    private static final int CALLS = 45;

    private final Random random;
    private final Pair pair;

    private ModelTest(int seed) {
        this.random = new Random(seed);
        int disks = random.nextInt(10) == 0 ? random.nextInt(20) - 3 : 4 + random.nextInt(7);
        int stripes = random.nextInt(10) == 0 ? random.nextInt(24) - 3 : 1 + random.nextInt(4);
        int spares = random.nextInt(8) - 1;
        this.pair = new Pair(DUE, "run " + seed, disks, stripes, spares);
    }

    public static void main(String[] args) {
        for (int seed = 0; seed < RUNS; seed++) {
            new ModelTest(seed).run();
        }
        DUE.end();
    }

    private void run() {
        int failures = random.nextInt(4);
        for (int i = 0; i < CALLS; i++) {
            oneCall(failures);
            pair.lookAtTheWhole();
        }
        pair.lookAtTheDisks();
    }

    private int word() {
        return random.nextInt(3) == 0 ? random.nextInt(16) : random.nextInt();
    }

    private int disk() {
        return random.nextInt(30) == 0 ? word() : random.nextInt(pair.disks());
    }

    private int stripe() {
        return random.nextInt(30) == 0 ? word() : random.nextInt(pair.stripes());
    }

    private int block() {
        return random.nextInt(30) == 0 ? word() : random.nextInt(pair.blocks());
    }

    private void oneCall(int failures) {
        int kind = random.nextInt(100);
        if (kind < 15) {
            pair.read(block());
        } else if (kind < 25) {
            pair.write(block(), word());
        } else if (kind < 45) {
            int count = random.nextInt(20) == 0 ? word() : 1 + random.nextInt(12);
            pair.writeRun(block(), count, word());
        } else if (kind < 45 + 2 * failures) {
            pair.fail(disk());
        } else if (kind < 56) {
            pair.replace(disk());
        } else if (kind < 66) {
            pair.rebuild();
        } else if (kind < 72) {
            pair.scrub(stripe());
        } else {
            stopsAndFaults(kind);
        }
    }

    private void stopsAndFaults(int kind) {
        if (kind < 77) {
            pair.corrupt(disk(), stripe(), word());
        } else if (kind < 85) {
            pair.arm(random.nextInt(30) == 0 ? word() : random.nextInt(25));
        } else if (kind < 86) {
            pair.crash();
        } else if (kind < 96) {
            pair.restart();
        } else {
            pair.locate(block());
        }
    }
}
