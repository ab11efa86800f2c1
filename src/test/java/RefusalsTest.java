import java.util.LinkedHashMap;
import java.util.Map;
import java.util.function.Consumer;
import java.util.function.ToLongFunction;

/**
 * "Refused requests (any negative answer but TORN and UNSURE) change nothing and count nothing": every
 * refusal in every state, with the order in which refusals go ahead of each other. What can't be seen at
 * once (how many acts are left until the stop, the words in the log) is compared with a twin that did not
 * get the refused call, by the same calls afterwards on both.
 */
public final class RefusalsTest {
    private static final Due DUE = new Due("RefusalsTest");
    private static final int MOST = Integer.MAX_VALUE;
    private static final int LEAST = Integer.MIN_VALUE;
    private static final int DISKS = 5;
    private static final int STRIPES = 3;
    private static final int BLOCKS = 9;

    private final String state;
    private final Consumer<DualParityArray> way;

    private RefusalsTest(String state, Consumer<DualParityArray> way) {
        this.state = state;
        this.way = way;
    }

    public static void main(String[] args) {
        for (Map.Entry<String, Consumer<DualParityArray>> state : states().entrySet()) {
            RefusalsTest test = new RefusalsTest(state.getKey(), state.getValue());
            test.wrongBlocksAreBadInEveryState();
            test.wrongStripesAndDisksAreBadInEveryState();
            test.wrongNumbersAreFalseInEveryState();
        }
        upAndWhole();
        upWithADiskMissing();
        upWithADiskRebuilding();
        down();
        broken();
        downAndBroken();
        DUE.end();
    }

    private static Map<String, Consumer<DualParityArray>> states() {
        Map<String, Consumer<DualParityArray>> states = new LinkedHashMap<>();
        states.put("up", x -> { });
        states.put("armed", x -> x.arm(3));
        states.put("missing", x -> x.fail(4));
        states.put("rebuilding", RefusalsTest::rebuilding);
        states.put("down", x -> x.crash());
        states.put("torn", RefusalsTest::torn);
        states.put("broken", RefusalsTest::breakIt);
        states.put("torn and broken", RefusalsTest::tornAndBroken);
        return states;
    }

    private static void rebuilding(DualParityArray x) {
        x.fail(1);
        x.replace(1);
        x.rebuild();
    }

    private static void missingWithoutASpare(DualParityArray x) {
        x.fail(4);
        x.replace(4);
        x.fail(4);
    }

    /** The entry is sealed and one of its cells written; a further stop is armed. */
    private static void torn(DualParityArray x) {
        x.arm(5);
        x.write(4, 0x1234);
        x.arm(2);
    }

    private static void breakIt(DualParityArray x) {
        x.fail(0);
        x.fail(2);
        x.fail(3);
    }

    private static void tornAndBroken(DualParityArray x) {
        torn(x);
        breakIt(x);
        x.arm(0);
    }

    private DualParityArray made() {
        DualParityArray x = new DualParityArray(DISKS, STRIPES, 1);
        x.writeRun(0, BLOCKS, 0x7F0);
        x.corrupt(2, 1, 6);
        way.accept(x);
        return x;
    }

    private void refused(String call, long want, ToLongFunction<DualParityArray> calling) {
        String what = call + " when " + state;
        DualParityArray x = made();
        String before = Sight.of(x, DISKS, STRIPES);
        DUE.is(what, calling.applyAsLong(x), want);
        DUE.is("seen after " + what, Sight.of(x, DISKS, STRIPES), before);
        DUE.is("calls after " + what, afterwards(x), afterwards(made()));
    }

    private static String afterwards(DualParityArray x) {
        StringBuilder text = new StringBuilder();
        text.append(x.restart()).append(' ').append(x.restart()).append(' ');
        text.append(x.write(4, 9)).append(' ').append(x.logged()).append(' ');
        text.append(x.restart()).append(' ').append(x.rebuild()).append(' ');
        text.append(x.scrub(1)).append(' ').append(x.rebuild()).append(' ');
        for (int block = 0; block < BLOCKS; block++) {
            text.append(x.read(block)).append(' ');
        }
        return text.append(Sight.of(x, DISKS, STRIPES)).toString();
    }

    private static long number(boolean answer) {
        return answer ? 1 : 0;
    }

    private void wrongBlocksAreBadInEveryState() {
        for (int block : new int[] {-1, BLOCKS, LEAST, MOST}) {
            refused("read(" + block + ")", DualParityArray.BAD, x -> x.read(block));
            refused("write(" + block + ", 7)", DualParityArray.BAD, x -> x.write(block, 7));
            refused("locate(" + block + ")", DualParityArray.BAD, x -> x.locate(block));
        }
        int[][] runs = {{0, 0}, {0, -1}, {0, LEAST}, {0, BLOCKS + 1}, {0, MOST}, {-1, 1}, {-1, 2}, {-1, 0},
            {-1, BLOCKS}, {-1, BLOCKS + 1}, {-1, MOST}, {LEAST, MOST}, {LEAST, LEAST}, {1, BLOCKS}, {1, MOST},
            {BLOCKS - 1, 2}, {BLOCKS - 1, 0}, {BLOCKS, 1}, {BLOCKS, 0}, {BLOCKS, -1}, {MOST, 1}, {MOST, MOST}};
        for (int[] run : runs) {
            String call = "writeRun(" + run[0] + ", " + run[1] + ", 7)";
            refused(call, DualParityArray.BAD, x -> x.writeRun(run[0], run[1], 7));
        }
    }

    private void wrongStripesAndDisksAreBadInEveryState() {
        for (int s : new int[] {-1, STRIPES, LEAST, MOST}) {
            refused("scrub(" + s + ")", DualParityArray.BAD, x -> x.scrub(s));
            refused("peek(1, " + s + ")", DualParityArray.BAD, x -> x.peek(1, s));
            refused("corrupt(1, " + s + ", 7)", 0, x -> number(x.corrupt(1, s, 7)));
        }
        for (int d : new int[] {-1, DISKS, LEAST, MOST}) {
            refused("position(" + d + ")", DualParityArray.BAD, x -> x.position(d));
            refused("peek(" + d + ", 0)", DualParityArray.BAD, x -> x.peek(d, 0));
            refused("peek(" + d + ", " + d + ")", DualParityArray.BAD, x -> x.peek(d, d));
            refused("corrupt(" + d + ", 0, 7)", 0, x -> number(x.corrupt(d, 0, 7)));
            refused("corrupt(" + d + ", " + d + ", 7)", 0, x -> number(x.corrupt(d, d, 7)));
            refused("fail(" + d + ")", 0, x -> number(x.fail(d)));
            refused("replace(" + d + ")", 0, x -> number(x.replace(d)));
        }
    }

    private void wrongNumbersAreFalseInEveryState() {
        for (int k : new int[] {-1, 1001, LEAST, MOST}) {
            refused("arm(" + k + ")", 0, x -> number(x.arm(k)));
        }
    }

    private void requestsAnswer(int want) {
        refused("read(0)", want, x -> x.read(0));
        refused("read(8)", want, x -> x.read(BLOCKS - 1));
        refused("write(0, 7)", want, x -> x.write(0, 7));
        refused("writeRun(0, 9, 7)", want, x -> x.writeRun(0, BLOCKS, 7));
        refused("writeRun(8, 1, 7)", want, x -> x.writeRun(BLOCKS - 1, 1, 7));
        refused("rebuild()", want, x -> x.rebuild());
        refused("scrub(0)", want, x -> x.scrub(0));
        refused("scrub(2)", want, x -> x.scrub(STRIPES - 1));
    }

    private void missingDiskIsRefused(int d) {
        refused("fail(" + d + ")", 0, x -> number(x.fail(d)));
        for (int stripe = 0; stripe < STRIPES; stripe++) {
            int s = stripe;
            refused("corrupt(" + d + ", " + s + ", 7)", 0, x -> number(x.corrupt(d, s, 7)));
            refused("peek(" + d + ", " + s + ")", DualParityArray.BAD, x -> x.peek(d, s));
        }
    }

    private static void upAndWhole() {
        Map<String, Consumer<DualParityArray>> states = states();
        for (String name : new String[] {"up", "armed"}) {
            RefusalsTest test = new RefusalsTest(name, states.get(name));
            test.refused("restart()", DualParityArray.UP, x -> x.restart());
            test.refused("rebuild()", DualParityArray.IDLE, x -> x.rebuild());
            for (int disk = 0; disk < DISKS; disk++) {
                int d = disk;
                test.refused("replace(" + d + ")", 0, x -> number(x.replace(d)));
            }
        }
    }

    private static void upWithADiskMissing() {
        Map<String, Consumer<DualParityArray>> states = new LinkedHashMap<>();
        states.put("missing without a spare", RefusalsTest::missingWithoutASpare);
        states.put("missing without a spare, armed", x -> {
            missingWithoutASpare(x);
            x.arm(0);
        });
        for (Map.Entry<String, Consumer<DualParityArray>> state : states.entrySet()) {
            RefusalsTest test = new RefusalsTest(state.getKey(), state.getValue());
            test.refused("restart()", DualParityArray.UP, x -> x.restart());
            test.refused("rebuild()", DualParityArray.IDLE, x -> x.rebuild());
            test.refused("replace(4)", 0, x -> number(x.replace(4)));
            test.refused("scrub(0)", DualParityArray.DEGRADED, x -> x.scrub(0));
            test.refused("scrub(2)", DualParityArray.DEGRADED, x -> x.scrub(2));
            test.missingDiskIsRefused(4);
        }
    }

    private static void upWithADiskRebuilding() {
        RefusalsTest test = new RefusalsTest("rebuilding", RefusalsTest::rebuilding);
        test.refused("restart()", DualParityArray.UP, x -> x.restart());
        test.refused("replace(1)", 0, x -> number(x.replace(1)));
        test.refused("scrub(1)", DualParityArray.DEGRADED, x -> x.scrub(1));
        test.refused("scrub(2)", DualParityArray.DEGRADED, x -> x.scrub(2));
        test.refused("corrupt(1, 1, 7)", 0, x -> number(x.corrupt(1, 1, 7)));
        test.refused("corrupt(1, 2, 7)", 0, x -> number(x.corrupt(1, 2, 7)));
        test.refused("peek(1, 1)", DualParityArray.BAD, x -> x.peek(1, 1));
        test.refused("peek(1, 2)", DualParityArray.BAD, x -> x.peek(1, 2));
    }

    private static void down() {
        Map<String, Consumer<DualParityArray>> states = states();
        states.put("down and armed", x -> {
            x.crash();
            x.arm(0);
        });
        // DOWN goes ahead of DEGRADED, and of IDLE in all of these but the last.
        states.put("down with a disk missing", x -> {
            x.fail(0);
            x.crash();
        });
        states.put("down with a disk rebuilding", x -> {
            rebuilding(x);
            x.crash();
        });
        for (String name : new String[] {"down", "torn", "down and armed", "down with a disk missing",
            "down with a disk rebuilding"}) {
            RefusalsTest test = new RefusalsTest(name, states.get(name));
            test.requestsAnswer(DualParityArray.DOWN);
            test.refused("crash()", 0, x -> number(x.crash()));
        }
    }

    private static void broken() {
        Map<String, Consumer<DualParityArray>> states = states();
        states.put("broken and armed", x -> {
            breakIt(x);
            x.arm(0);
        });
        states.put("broken by a disk that is rebuilding", x -> {
            rebuilding(x);
            x.fail(2);
            x.fail(3);
        });
        states.put("broken with every disk missing", x -> {
            for (int d = 0; d < DISKS; d++) {
                x.fail(d);
            }
        });
        for (String name : new String[] {"broken", "broken and armed", "broken by a disk that is rebuilding",
            "broken with every disk missing"}) {
            RefusalsTest test = new RefusalsTest(name, states.get(name));
            test.requestsAnswer(DualParityArray.BROKEN);
            test.refused("restart()", DualParityArray.UP, x -> x.restart());
            test.refused("faults()", DualParityArray.BROKEN, x -> x.faults());
            test.missingDiskIsRefused(2);
        }
    }

    private static void downAndBroken() {
        Map<String, Consumer<DualParityArray>> states = states();
        states.put("broken, then down", x -> {
            breakIt(x);
            x.crash();
        });
        for (String name : new String[] {"torn and broken", "broken, then down"}) {
            RefusalsTest test = new RefusalsTest(name, states.get(name));
            test.requestsAnswer(DualParityArray.DOWN);
            test.refused("restart()", DualParityArray.BROKEN, x -> x.restart());
            test.refused("faults()", DualParityArray.BROKEN, x -> x.faults());
            test.refused("crash()", 0, x -> number(x.crash()));
            test.missingDiskIsRefused(3);
        }
    }
}
