/** Promises 8 (scrub), 9 (corrupt) and 13 (faults). */
public final class ScrubTest {
    private static final Due DUE = new Due("ScrubTest");

    public static void main(String[] args) {
        everySingleFaultIsMended();
        scrubCountsItsCells();
        twoFaultsMayBeUnsure();
        twoFaultsMayLookLikeOne();
        scrubCanBeTorn();
        scrubRefusesInOrder();
        scrubNeedsAllCells();
        corruptAddsWithoutATrace();
        corruptWorksInEveryState();
        corruptKnowsNoOtherCells();
        faultsCountsStripes();
        faultsOfMissingCells();
        faultsInEveryState();
        DUE.end();
    }

    private static void everySingleFaultIsMended() {
        for (int n = 4; n <= 10; n++) {
            DualParityArray x = new DualParityArray(n, 5, 0);
            x.writeRun(0, 5 * (n - 2), 0x7654321);
            for (int d = 0; d < n; d++) {
                for (int s = 0; s < 5; s++) {
                    long before = x.peek(d, s);
                    x.corrupt(d, s, 0x80FF0001 << d);
                    DUE.is("scrub(" + s + ") of " + n, x.scrub(s), 1 + d);
                    DUE.is("peek(" + d + ", " + s + ")", x.peek(d, s), before);
                }
            }
            DUE.is("faults()", x.faults(), 0);
        }
    }

    private static void scrubCountsItsCells() {
        DualParityArray x = new DualParityArray(6, 2, 0);
        DUE.is("scrub(1)", x.scrub(1), 0);
        DUE.is("reads()", x.reads(), 6);
        DUE.is("writes()", x.writes(), 0);
        x.corrupt(0, 1, 5);
        DUE.is("scrub(1)", x.scrub(1), 1);
        DUE.is("reads()", x.reads(), 12);
        DUE.is("writes()", x.writes(), 1);
    }

    private static void twoFaultsMayBeUnsure() {
        DualParityArray x = new DualParityArray(7, 1, 0);
        x.corrupt(2, 0, 1);
        x.corrupt(3, 0, 256);
        x.arm(0);
        DUE.is("scrub(0)", x.scrub(0), DualParityArray.UNSURE);
        DUE.is("no act was made", x.mode(), 4);
        DUE.is("reads()", x.reads(), 7);
        DUE.is("writes()", x.writes(), 0);
        DUE.is("peek(2, 0)", x.peek(2, 0), 1);
        // P on 6 and Q on 0: a column i with q = 2^i p would need i = 5, one more than there is.
        DualParityArray y = new DualParityArray(7, 1, 0);
        y.corrupt(6, 0, 1);
        y.corrupt(0, 0, 32);
        DUE.is("scrub(0) with q = 32 p", y.scrub(0), DualParityArray.UNSURE);
    }

    private static void twoFaultsMayLookLikeOne() {
        DualParityArray x = new DualParityArray(7, 1, 0);
        x.corrupt(6, 0, 0x81);
        x.corrupt(0, 0, 0x1D ^ 2);
        // q is 2 times p: column 1, which is on disk 2.
        DUE.is("scrub(0) with q = 2 p", x.scrub(0), 3);
        DUE.is("peek(2, 0)", x.peek(2, 0), 0x81);
        DUE.is("faults()", x.faults(), 0);
        x.corrupt(6, 0, 1);
        x.corrupt(0, 0, 1);
        DUE.is("scrub(0) with q = p", x.scrub(0), 2);
        x.corrupt(6, 0, 1);
        x.corrupt(0, 0, 16);
        DUE.is("scrub(0) with q = 16 p", x.scrub(0), 6);
    }

    private static void scrubCanBeTorn() {
        DualParityArray x = new DualParityArray(5, 2, 0);
        x.corrupt(2, 1, 9);
        x.arm(0);
        DUE.is("scrub(0) makes no act", x.scrub(0), 0);
        DUE.is("mode()", x.mode(), 4);
        DUE.is("scrub(1)", x.scrub(1), DualParityArray.TORN);
        DUE.is("mode()", x.mode(), 1);
        DUE.is("reads()", x.reads(), 10);
        DUE.is("writes()", x.writes(), 0);
        DUE.is("peek(2, 1)", x.peek(2, 1), 9);
        x.restart();
        x.arm(1);
        DUE.is("scrub(1) again", x.scrub(1), 3);
        DUE.is("mode()", x.mode(), 4);
        DUE.is("peek(2, 1)", x.peek(2, 1), 0);
    }

    private static void scrubRefusesInOrder() {
        DualParityArray x = new DualParityArray(5, 2, 0);
        int[] wrong = {-1, 2, Integer.MIN_VALUE, Integer.MAX_VALUE};
        for (int s : wrong) {
            DUE.is("scrub(" + s + ")", x.scrub(s), DualParityArray.BAD);
        }
        x.fail(0);
        DUE.is("scrub with a disk missing", x.scrub(0), DualParityArray.DEGRADED);
        DUE.is("scrub(2) with a disk missing", x.scrub(2), DualParityArray.BAD);
        x.fail(1);
        x.fail(2);
        DUE.is("scrub while BROKEN", x.scrub(0), DualParityArray.BROKEN);
        x.crash();
        DUE.is("scrub while DOWN", x.scrub(0), DualParityArray.DOWN);
        DUE.is("scrub(2) while DOWN", x.scrub(2), DualParityArray.BAD);
        DUE.is("reads()", x.reads(), 0);
    }

    private static void scrubNeedsAllCells() {
        DualParityArray x = new DualParityArray(5, 2, 1);
        x.fail(4);
        x.replace(4);
        DUE.is("scrub(0) before the rebuilding", x.scrub(0), DualParityArray.DEGRADED);
        x.rebuild();
        DUE.is("scrub(0) behind the position", x.scrub(0), 0);
        DUE.is("scrub(1) at the position", x.scrub(1), DualParityArray.DEGRADED);
    }

    private static void corruptAddsWithoutATrace() {
        DualParityArray x = new DualParityArray(4, 2, 0);
        x.writeRun(0, 4, 0x55);
        int reads = x.reads();
        int writes = x.writes();
        x.arm(0);
        DUE.is("corrupt(1, 0, 15)", x.corrupt(1, 0, 15), true);
        DUE.is("read(0)", x.read(0), 0x5A);
        DUE.is("mode()", x.mode(), 4);
        DUE.is("reads()", x.reads(), reads + 1);
        DUE.is("writes()", x.writes(), writes);
        DUE.is("corrupt(1, 0, 0)", x.corrupt(1, 0, 0), true);
        DUE.is("read(0)", x.read(0), 0x5A);
        DUE.is("corrupt(1, 0, 15)", x.corrupt(1, 0, 15), true);
        DUE.is("read(0)", x.read(0), 0x55);
    }

    private static void corruptWorksInEveryState() {
        DualParityArray x = new DualParityArray(4, 2, 1);
        x.crash();
        DUE.is("corrupt while DOWN", x.corrupt(0, 0, 3), true);
        x.fail(1);
        DUE.is("corrupt of a missing disk", x.corrupt(1, 0, 3), false);
        x.fail(2);
        x.fail(3);
        DUE.is("corrupt while BROKEN", x.corrupt(0, 0, 4), true);
        DUE.is("peek(0, 0)", x.peek(0, 0), 7);
        x.replace(1);
        DUE.is("corrupt at the position", x.corrupt(1, 0, 3), false);
        DualParityArray y = new DualParityArray(4, 2, 1);
        y.fail(1);
        y.replace(1);
        y.rebuild();
        DUE.is("corrupt behind the position", y.corrupt(1, 0, 3), true);
        DUE.is("corrupt at the position", y.corrupt(1, 1, 3), false);
        y.rebuild();
        DUE.is("the cell was not changed", y.peek(1, 1), 0);
    }

    private static void corruptKnowsNoOtherCells() {
        DualParityArray x = new DualParityArray(4, 2, 0);
        int[][] wrong = {{-1, 0}, {4, 0}, {0, -1}, {0, 2}, {-1, 2}, {1, -1},
            {Integer.MAX_VALUE, Integer.MAX_VALUE}, {Integer.MIN_VALUE, Integer.MIN_VALUE}};
        for (int[] cell : wrong) {
            String what = "corrupt(" + cell[0] + ", " + cell[1] + ", 5)";
            DUE.is(what, x.corrupt(cell[0], cell[1], 5), false);
        }
        for (int d = 0; d < 4; d++) {
            DUE.is("peek", x.peek(d, 0) + x.peek(d, 1), 0);
        }
    }

    private static void faultsCountsStripes() {
        DualParityArray x = new DualParityArray(8, 16, 0);
        for (int s = 0; s < 16; s++) {
            x.corrupt(s % 8, s, 1 << s);
            DUE.is("faults()", x.faults(), s + 1);
        }
        x.corrupt(3, 0, 5);
        DUE.is("faults() with two in a stripe", x.faults(), 16);
        DUE.is("reads()", x.reads(), 0);
    }

    private static void faultsOfMissingCells() {
        // Of 5 disks in stripe 0: Q on 0, the columns on 1, 2 and 3, P on 4.
        int[][] lost = {{1}, {0}, {4}, {0, 4}, {1, 2}, {1, 0}, {1, 4}};
        int[] want = {1, 1, 1, 0, 0, 0, 0};
        for (int i = 0; i < lost.length; i++) {
            DualParityArray x = new DualParityArray(5, 1, 0);
            x.corrupt(3, 0, 6);
            for (int d : lost[i]) {
                x.fail(d);
            }
            DUE.is("faults(), case " + i, x.faults(), want[i]);
        }
        DualParityArray y = new DualParityArray(5, 1, 0);
        y.corrupt(3, 0, 6);
        y.fail(3);
        DUE.is("faults() without the faulty column", y.faults(), 0);
        DualParityArray z = new DualParityArray(5, 1, 0);
        z.corrupt(0, 0, 6);
        z.fail(0);
        DUE.is("faults() without the faulty Q", z.faults(), 0);
    }

    private static void faultsInEveryState() {
        DualParityArray x = new DualParityArray(5, 2, 0);
        x.corrupt(3, 0, 6);
        x.crash();
        DUE.is("faults() while DOWN", x.faults(), 1);
        x.fail(0);
        x.fail(1);
        DUE.is("faults() with two missing", x.faults(), 0);
        x.fail(2);
        DUE.is("faults() while DOWN and BROKEN", x.faults(), DualParityArray.BROKEN);
    }
}
