import java.util.Random;

/** All promises: runs of calls, chosen by chance from fixed seeds, on the class and on the model beside it. */
public final class ModelTest {
    private static final Due DUE = new Due("ModelTest");
    private static final int RUNS = 6000;
    private static final int CALLS = 50;

    private final Random random;
    private final String name;
    private final Model model;
    private final DualParityArray array;

    private ModelTest(int seed) {
        this.random = new Random(seed);
        int disks = random.nextInt(10) == 0 ? random.nextInt(20) - 3 : 4 + random.nextInt(7);
        int stripes = random.nextInt(10) == 0 ? random.nextInt(24) - 3 : 1 + random.nextInt(4);
        int spares = random.nextInt(8) - 1;
        this.name = "run " + seed + ", new(" + disks + ", " + stripes + ", " + spares + "), ";
        this.model = new Model(disks, stripes, spares);
        this.array = new DualParityArray(disks, stripes, spares);
    }

    public static void main(String[] args) {
        for (int seed = 0; seed < RUNS; seed++) {
            new ModelTest(seed).run();
        }
        DUE.end();
    }

    /** At most 512 calls on the object, those that look at it included. */
    private void run() {
        int failures = random.nextInt(4);
        for (int i = 0; i < CALLS; i++) {
            String at = name + "call " + i + ", ";
            oneCall(at, failures);
            DUE.is(at + "mode()", array.mode(), model.mode());
            DUE.is(at + "logged()", array.logged(), model.logged());
            DUE.is(at + "reads()", array.reads(), model.reads());
            DUE.is(at + "writes()", array.writes(), model.writes());
            DUE.is(at + "faults()", array.faults(), model.faults());
        }
        DUE.is(name + "spares()", array.spares(), model.spares());
        for (int d = 0; d < model.n; d++) {
            DUE.is(name + "position(" + d + ")", array.position(d), model.position(d));
            for (int s = 0; s < model.stripes; s++) {
                DUE.is(name + "peek(" + d + ", " + s + ")", array.peek(d, s), model.peek(d, s));
            }
        }
    }

    private int word() {
        return random.nextInt(3) == 0 ? random.nextInt(16) : random.nextInt();
    }

    private int disk() {
        return random.nextInt(30) == 0 ? word() : random.nextInt(model.n);
    }

    private int stripe() {
        return random.nextInt(30) == 0 ? word() : random.nextInt(model.stripes);
    }

    private int block() {
        return random.nextInt(30) == 0 ? word() : random.nextInt(model.stripes * (model.n - 2));
    }

    private void oneCall(String at, int failures) {
        int kind = random.nextInt(100);
        if (kind < 15) {
            int block = block();
            DUE.is(at + "read(" + block + ")", array.read(block), model.read(block));
        } else if (kind < 25) {
            int block = block();
            int v = word();
            DUE.is(at + "write(" + block + ", " + v + ")", array.write(block, v), model.writeRun(block, 1, v));
        } else if (kind < 45) {
            run(at);
        } else if (kind < 45 + 2 * failures) {
            int d = disk();
            DUE.is(at + "fail(" + d + ")", array.fail(d), model.fail(d) == 1);
        } else if (kind < 56) {
            int d = disk();
            DUE.is(at + "replace(" + d + ")", array.replace(d), model.replace(d) == 1);
        } else if (kind < 66) {
            DUE.is(at + "rebuild()", array.rebuild(), model.rebuild());
        } else if (kind < 72) {
            int s = stripe();
            DUE.is(at + "scrub(" + s + ")", array.scrub(s), model.scrub(s));
        } else {
            stopsAndFaults(at, kind);
        }
    }

    private void run(String at) {
        int block = block();
        int count = random.nextInt(20) == 0 ? word() : 1 + random.nextInt(12);
        int v = word();
        String what = at + "writeRun(" + block + ", " + count + ", " + v + ")";
        DUE.is(what, array.writeRun(block, count, v), model.writeRun(block, count, v));
    }

    private void stopsAndFaults(String at, int kind) {
        if (kind < 77) {
            int d = disk();
            int s = stripe();
            int x = word();
            String what = at + "corrupt(" + d + ", " + s + ", " + x + ")";
            DUE.is(what, array.corrupt(d, s, x), model.corrupt(d, s, x) == 1);
        } else if (kind < 85) {
            int k = random.nextInt(30) == 0 ? word() : random.nextInt(25);
            DUE.is(at + "arm(" + k + ")", array.arm(k), model.arm(k) == 1);
        } else if (kind < 86) {
            DUE.is(at + "crash()", array.crash(), model.crash() == 1);
        } else if (kind < 96) {
            DUE.is(at + "restart()", array.restart(), model.restart());
        } else {
            int block = block();
            DUE.is(at + "locate(" + block + ")", array.locate(block), model.locate(block));
        }
    }
}
