/** Promises 5 (fail), 6 (replace), 7 (rebuild), 16 (position) and 19 (spares). */
public final class DisksTest {
    private static final Due DUE = new Due("DisksTest");

    public static void main(String[] args) {
        failTakesADiskOnce();
        failWorksInEveryState();
        replaceNeedsAMissingDiskAndASpare();
        replaceWorksInEveryState();
        rebuildGoesStripeByStripe();
        rebuildTakesTheLeastPosition();
        rebuildOfTwoDisks();
        rebuildCanBeTorn();
        rebuildRefusesInOrder();
        rebuildWritesTheValue();
        failedAgainWhileRebuilding();
        brokenCountsRebuildingDisks();
        oneStripe();
        positionKnowsNoOtherDisks();
        DUE.end();
    }

    private static void failTakesADiskOnce() {
        DualParityArray x = new DualParityArray(5, 3, 0);
        for (int d : new int[] {-1, 5, Integer.MIN_VALUE, Integer.MAX_VALUE}) {
            DUE.is("fail(" + d + ")", x.fail(d), false);
        }
        DUE.is("fail(4)", x.fail(4), true);
        DUE.is("fail(4) again", x.fail(4), false);
        DUE.is("position(4)", x.position(4), DualParityArray.GONE);
        DUE.is("position(3)", x.position(3), 3);
        DUE.is("fail(0)", x.fail(0), true);
        DUE.is("mode() with two missing", x.mode(), 0);
    }

    private static void failWorksInEveryState() {
        DualParityArray x = new DualParityArray(5, 3, 0);
        x.crash();
        for (int d = 0; d < 5; d++) {
            DUE.is("fail(" + d + ")", x.fail(d), true);
            DUE.is("mode()", x.mode(), d < 2 ? 1 : 3);
        }
    }

    private static void replaceNeedsAMissingDiskAndASpare() {
        DualParityArray x = new DualParityArray(5, 3, 2);
        DUE.is("replace of a present disk", x.replace(0), false);
        for (int d : new int[] {-1, 5, Integer.MIN_VALUE, Integer.MAX_VALUE}) {
            DUE.is("replace(" + d + ")", x.replace(d), false);
        }
        DUE.is("spares()", x.spares(), 2);
        x.fail(0);
        DUE.is("replace(0)", x.replace(0), true);
        DUE.is("spares()", x.spares(), 1);
        DUE.is("position(0)", x.position(0), 0);
        DUE.is("replace of a rebuilding disk", x.replace(0), false);
        DUE.is("spares()", x.spares(), 1);
        x.fail(1);
        DUE.is("replace(1)", x.replace(1), true);
        x.fail(1);
        DUE.is("replace without a spare", x.replace(1), false);
        DUE.is("spares()", x.spares(), 0);
        DUE.is("position(1)", x.position(1), DualParityArray.GONE);
    }

    private static void replaceWorksInEveryState() {
        DualParityArray x = new DualParityArray(5, 3, 4);
        x.crash();
        for (int d = 0; d < 4; d++) {
            x.fail(d);
        }
        for (int d = 0; d < 4; d++) {
            DUE.is("replace(" + d + ")", x.replace(d), true);
            DUE.is("spares()", x.spares(), 3 - d);
        }
        DUE.is("mode()", x.mode(), 3);
    }

    private static void rebuildGoesStripeByStripe() {
        DualParityArray x = new DualParityArray(6, 3, 1);
        x.writeRun(0, 12, 900);
        long[] before = {x.peek(2, 0), x.peek(2, 1), x.peek(2, 2)};
        x.fail(2);
        x.replace(2);
        int reads = x.reads();
        int writes = x.writes();
        for (int s = 0; s < 3; s++) {
            DUE.is("position before", x.position(2), s);
            DUE.is("rebuild()", x.rebuild(), 2 - s);
            DUE.is("reads()", x.reads(), reads + 5 * (s + 1));
            DUE.is("writes()", x.writes(), writes + s + 1);
            DUE.is("peek", x.peek(2, s), before[s]);
        }
        DUE.is("position when present", x.position(2), 3);
        DUE.is("rebuild() of none", x.rebuild(), DualParityArray.IDLE);
        DUE.is("reads() of none", x.reads(), reads + 15);
        DUE.is("faults()", x.faults(), 0);
    }

    private static void rebuildTakesTheLeastPosition() {
        DualParityArray x = new DualParityArray(6, 3, 2);
        x.fail(4);
        x.replace(4);
        x.rebuild();
        x.fail(1);
        x.replace(1);
        DUE.is("the one behind", x.rebuild(), 2);
        DUE.is("position(1)", x.position(1), 1);
        DUE.is("position(4)", x.position(4), 1);
        DUE.is("the least number", x.rebuild(), 1);
        DUE.is("position(1)", x.position(1), 2);
        DUE.is("position(4)", x.position(4), 1);
        DUE.is("then the other", x.rebuild(), 1);
        DUE.is("position(4)", x.position(4), 2);
        DUE.is("the first is done", x.rebuild(), 0);
        DUE.is("position(1)", x.position(1), 3);
        DUE.is("the second is done", x.rebuild(), 0);
        DUE.is("none", x.rebuild(), DualParityArray.IDLE);
    }

    private static void rebuildOfTwoDisks() {
        for (int first = 0; first < 7; first++) {
            for (int second = first + 1; second < 7; second++) {
                DualParityArray x = new DualParityArray(7, 7, 2);
                x.writeRun(0, 35, 0xFFFFFF0);
                x.fail(first);
                x.fail(second);
                x.replace(second);
                x.replace(first);
                for (int step = 0; step < 14; step++) {
                    DUE.is("rebuild()", x.rebuild(), 6 - step / 2);
                }
                for (int block = 0; block < 35; block++) {
                    DUE.is("read(" + block + ")", x.read(block), 0xFFFFFF0 + block);
                }
                DUE.is("faults()", x.faults(), 0);
                DUE.is("scrub(3)", x.scrub(3), 0);
            }
        }
    }

    private static void rebuildCanBeTorn() {
        DualParityArray x = new DualParityArray(4, 1, 1);
        x.writeRun(0, 2, 5);
        x.fail(1);
        x.replace(1);
        int reads = x.reads();
        int writes = x.writes();
        x.arm(0);
        DUE.is("torn before the first act", x.rebuild(), DualParityArray.TORN);
        DUE.is("reads()", x.reads(), reads + 3);
        DUE.is("writes()", x.writes(), writes);
        x.restart();
        x.arm(1);
        DUE.is("torn before the second act", x.rebuild(), DualParityArray.TORN);
        DUE.is("reads()", x.reads(), reads + 6);
        DUE.is("writes()", x.writes(), writes + 1);
        DUE.is("position(1)", x.position(1), 0);
        DUE.is("peek", x.peek(1, 0), DualParityArray.BAD);
        DUE.is("rebuild() while DOWN", x.rebuild(), DualParityArray.DOWN);
        x.restart();
        x.write(0, 6);
        x.arm(2);
        DUE.is("the stop comes behind it", x.rebuild(), 0);
        DUE.is("read(0)", x.read(0), 6);
        DUE.is("peek", x.peek(1, 0), 6);
        DUE.is("mode()", x.mode(), 4);
    }

    private static void rebuildRefusesInOrder() {
        DualParityArray x = new DualParityArray(4, 2, 4);
        DUE.is("rebuild() of a new array", x.rebuild(), DualParityArray.IDLE);
        x.fail(0);
        DUE.is("rebuild() of a missing disk", x.rebuild(), DualParityArray.IDLE);
        x.fail(1);
        x.fail(2);
        DUE.is("rebuild() while BROKEN", x.rebuild(), DualParityArray.BROKEN);
        x.replace(0);
        DUE.is("rebuild() while BROKEN", x.rebuild(), DualParityArray.BROKEN);
        x.crash();
        DUE.is("rebuild() while DOWN", x.rebuild(), DualParityArray.DOWN);
        DUE.is("reads()", x.reads(), 0);
        DUE.is("writes()", x.writes(), 0);
    }

    private static void rebuildWritesTheValue() {
        // Of 4 disks in stripe 0: Q on 0, the columns on 1 and 2, P on 3; the value of a lost column is by P.
        DualParityArray x = new DualParityArray(4, 1, 2);
        x.writeRun(0, 2, 10);
        x.corrupt(3, 0, 7);
        x.fail(1);
        x.replace(1);
        x.rebuild();
        DUE.is("column 0 by the faulty P", x.peek(1, 0), 10 ^ 7);
        DUE.is("faults()", x.faults(), 1);
        x.fail(0);
        x.replace(0);
        x.rebuild();
        DUE.is("Q by the columns", x.peek(0, 0), 10 ^ 7 ^ 22);
        DUE.is("faults()", x.faults(), 0);
    }

    private static void failedAgainWhileRebuilding() {
        DualParityArray x = new DualParityArray(5, 4, 2);
        x.fail(3);
        x.replace(3);
        x.rebuild();
        DUE.is("fail of a rebuilding disk", x.fail(3), true);
        DUE.is("position(3)", x.position(3), DualParityArray.GONE);
        DUE.is("peek", x.peek(3, 0), DualParityArray.BAD);
        DUE.is("replace(3)", x.replace(3), true);
        DUE.is("position(3)", x.position(3), 0);
        DUE.is("rebuild()", x.rebuild(), 3);
    }

    private static void brokenCountsRebuildingDisks() {
        DualParityArray x = new DualParityArray(6, 2, 4);
        x.fail(0);
        x.replace(0);
        x.rebuild();
        x.fail(1);
        x.replace(1);
        x.fail(2);
        DUE.is("mode() with three not present", x.mode(), 2);
        DUE.is("read(0)", x.read(0), DualParityArray.BROKEN);
        x.replace(2);
        DUE.is("mode() with three rebuilding", x.mode(), 2);
    }

    private static void oneStripe() {
        DualParityArray x = new DualParityArray(4, 1, 1);
        x.fail(0);
        x.replace(0);
        DUE.is("rebuild() of the only stripe", x.rebuild(), 0);
        DUE.is("position(0)", x.position(0), 1);
    }

    private static void positionKnowsNoOtherDisks() {
        DualParityArray x = new DualParityArray(4, 16, 1);
        for (int d : new int[] {-1, 4, Integer.MIN_VALUE, Integer.MAX_VALUE}) {
            DUE.is("position(" + d + ")", x.position(d), DualParityArray.BAD);
        }
        DUE.is("position(3)", x.position(3), 16);
        x.crash();
        DUE.is("position(3) while DOWN", x.position(3), 16);
    }
}
