import java.util.ArrayList;
import java.util.List;
import java.util.function.Consumer;

/**
 * All promises, in every state against the model: each call with each argument on the edge and beside it,
 * and each write, rebuilding step, scrub and restart with a stop in place of each of its acts.
 */
public final class ModelEdgesTest {
    private static final Due DUE = new Due("ModelEdgesTest");
    private static final int[][] SIZES = {{4, 1, 0}, {5, 3, 1}, {7, 2, 2}, {10, 16, 4}};
    // Two disks that are lost before a run: -1 for none, 10 and more for one that is rebuilding.
    private static final int[][] LOST = {{-1, -1}, {1, -1}, {0, 3}, {11, -1}, {2, 11}};
    private static final int LEAST = Integer.MIN_VALUE;
    private static final int MOST = Integer.MAX_VALUE;

    public static void main(String[] args) {
        everyCallInEveryState();
        everyStopOfARun();
        everyStopOfAStep();
        DUE.end();
    }

    private static void everyCallInEveryState() {
        for (int[] size : SIZES) {
            List<Consumer<Pair>> states = states();
            List<Consumer<Pair>> calls = calls(size[0], size[1]);
            for (int state = 0; state < states.size(); state++) {
                for (int call = 0; call < calls.size(); call++) {
                    String name = "state " + state + ", call " + call;
                    Pair pair = new Pair(DUE, name, size[0], size[1], size[2]);
                    pair.writeRun(0, pair.blocks(), 0x7F7F7F7E);
                    pair.corrupt(2, 0, 0x55);
                    states.get(state).accept(pair);
                    calls.get(call).accept(pair);
                    lookAndGoOn(pair);
                }
            }
        }
    }

    private static void lookAndGoOn(Pair pair) {
        pair.lookAtTheWhole();
        pair.lookAtTheDisks();
        pair.restart();
        pair.lookAtTheWhole();
        pair.restart();
        pair.write(1, 0x1F2F3F4F);
        pair.restart();
        pair.rebuild();
        pair.scrub(0);
        pair.read(0);
        pair.read(pair.blocks() - 1);
        pair.lookAtTheWhole();
        pair.lookAtTheDisks();
    }

    private static List<Consumer<Pair>> states() {
        List<Consumer<Pair>> states = new ArrayList<>();
        states.add(x -> { });
        states.add(x -> x.arm(0));
        states.add(x -> x.arm(6));
        states.add(x -> x.fail(0));
        states.add(ModelEdgesTest::missingTwo);
        states.add(ModelEdgesTest::rebuildingOne);
        states.add(x -> x.crash());
        states.add(ModelEdgesTest::torn);
        states.add(x -> {
            torn(x);
            missingTwo(x);
            x.arm(2);
        });
        states.add(x -> {
            missingTwo(x);
            x.fail(1);
        });
        states.add(x -> {
            torn(x);
            missingTwo(x);
            x.fail(1);
            x.arm(0);
        });
        return states;
    }

    private static void missingTwo(Pair x) {
        x.fail(0);
        x.fail(3);
    }

    private static void rebuildingOne(Pair x) {
        x.fail(1);
        x.replace(1);
        x.rebuild();
        x.arm(9);
    }

    private static void torn(Pair x) {
        x.arm(5);
        x.write(0, -1);
    }

    private static List<Consumer<Pair>> calls(int disks, int stripes) {
        List<Consumer<Pair>> calls = new ArrayList<>();
        int[] someDisks = {LEAST, -1, 0, 1, 3, disks - 1, disks, MOST};
        int[] someStripes = {LEAST, -1, 0, stripes - 1, stripes, MOST};
        for (int d : someDisks) {
            calls.add(x -> x.fail(d));
            calls.add(x -> x.replace(d));
            calls.add(x -> x.position(d));
            for (int s : someStripes) {
                calls.add(x -> x.peek(d, s));
                calls.add(x -> x.corrupt(d, s, 0x80));
            }
        }
        for (int s : someStripes) {
            calls.add(x -> x.scrub(s));
        }
        for (int k : new int[] {LEAST, -1, 0, 1, 1000, 1001, MOST}) {
            calls.add(x -> x.arm(k));
        }
        calls.add(x -> x.rebuild());
        calls.add(x -> x.crash());
        calls.add(x -> x.restart());
        addCallsOnBlocks(calls, disks - 2, stripes);
        return calls;
    }

    private static void addCallsOnBlocks(List<Consumer<Pair>> calls, int columns, int stripes) {
        int blocks = columns * stripes;
        int[] someBlocks = {LEAST, -1, 0, columns - 1, columns, blocks - columns, blocks - 1, blocks, MOST};
        int[] someCounts = {LEAST, -1, 0, 1, 2, columns, columns + 1, blocks - 1, blocks, blocks + 1, MOST};
        for (int block : someBlocks) {
            calls.add(x -> x.read(block));
            calls.add(x -> x.write(block, MOST));
            calls.add(x -> x.locate(block));
            for (int count : someCounts) {
                calls.add(x -> x.writeRun(block, count, MOST));
            }
        }
    }

    private static void lose(Pair pair, int lost) {
        if (lost >= 0) {
            pair.fail(lost % 10);
        }
        if (lost >= 10) {
            pair.replace(lost % 10);
            pair.rebuild();
        }
    }

    private static void everyStopOfARun() {
        for (int disks : new int[] {4, 5, 7}) {
            int columns = disks - 2;
            for (int first = 0; first < columns; first++) {
                for (int count = 1; first + count <= 2 * columns; count++) {
                    int mostActs = 2 * (count + 6);
                    for (int k = 0; k <= mostActs; k++) {
                        stopOfARun(disks, first, count, k);
                    }
                }
            }
        }
    }

    private static void stopOfARun(int disks, int first, int count, int k) {
        for (int[] lost : LOST) {
            Pair pair = new Pair(DUE, "run " + first + " + " + count + ", stop " + k, disks, 2, 2);
            pair.writeRun(0, pair.blocks(), 0x40414243);
            pair.corrupt(disks - 1, 0, 0x99);
            lose(pair, lost[0]);
            lose(pair, lost[1]);
            pair.arm(k);
            pair.writeRun(first, count, 0x7FFFFFFE);
            pair.lookAtTheWhole();
            pair.lookAtTheDisks();
            pair.arm(k % 4);
            pair.restart();
            pair.lookAtTheDisks();
            pair.restart();
            pair.lookAtTheWhole();
            pair.lookAtTheDisks();
        }
    }

    private static void everyStopOfAStep() {
        for (int disks = 4; disks <= 10; disks++) {
            for (int d = 0; d < disks; d++) {
                for (int k = 0; k <= 3; k++) {
                    Pair pair = new Pair(DUE, "disk " + d + ", stop " + k, disks, 2, 2);
                    pair.writeRun(0, pair.blocks(), 0x40414243);
                    pair.corrupt(d, 0, 0xF00F);
                    pair.arm(k);
                    pair.scrub(0);
                    pair.scrub(0);
                    pair.lookAtTheWhole();
                    pair.restart();
                    pair.fail(d);
                    pair.replace(d);
                    pair.arm(k);
                    pair.rebuild();
                    pair.lookAtTheDisks();
                    pair.rebuild();
                    pair.lookAtTheWhole();
                    pair.restart();
                    pair.rebuild();
                    pair.lookAtTheWhole();
                    pair.lookAtTheDisks();
                }
            }
        }
    }
}
