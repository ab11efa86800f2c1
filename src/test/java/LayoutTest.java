/** Promises 1 (a new object), 14 (peek) and 15 (locate). */
public final class LayoutTest {
    private static final Due DUE = new Due("LayoutTest");

    public static void main(String[] args) {
        sizesAreKeptWithinTheirLimits();
        newObjectIsEmpty();
        blocksLieWhereTheLayoutSays();
        locateKnowsNoOtherBlocks();
        locateAnswersInEveryState();
        parityCellsLieBeforeTheColumns();
        peekKnowsNoOtherCells();
        peekAnswersInEveryState();
        peekOfRebuildingDisk();
        DUE.end();
    }

    private static void size(int disks, int stripes, int spares, int[] want) {
        DualParityArray x = new DualParityArray(disks, stripes, spares);
        String what = "new(" + disks + ", " + stripes + ", " + spares + ") ";
        DUE.is(what + "last disk", x.position(want[0] - 1), want[1]);
        DUE.is(what + "disk behind", x.position(want[0]), DualParityArray.BAD);
        DUE.is(what + "last stripe", x.peek(0, want[1] - 1), 0);
        DUE.is(what + "stripe behind", x.peek(0, want[1]), DualParityArray.BAD);
        DUE.is(what + "spares", x.spares(), want[2]);
        int blocks = want[1] * (want[0] - 2);
        DUE.is(what + "last block", x.read(blocks - 1), 0);
        DUE.is(what + "block behind", x.read(blocks), DualParityArray.BAD);
    }

    private static void sizesAreKeptWithinTheirLimits() {
        size(4, 1, 0, new int[] {4, 1, 0});
        size(10, 16, 4, new int[] {10, 16, 4});
        size(3, 0, -1, new int[] {4, 1, 0});
        size(11, 17, 5, new int[] {10, 16, 4});
        size(5, 2, 1, new int[] {5, 2, 1});
        size(9, 15, 3, new int[] {9, 15, 3});
        int least = Integer.MIN_VALUE;
        int most = Integer.MAX_VALUE;
        size(least, least, least, new int[] {4, 1, 0});
        size(most, most, most, new int[] {10, 16, 4});
    }

    private static void newObjectIsEmpty() {
        DualParityArray x = new DualParityArray(6, 5, 2);
        DUE.is("mode()", x.mode(), 0);
        DUE.is("logged()", x.logged(), -1);
        DUE.is("reads()", x.reads(), 0);
        DUE.is("writes()", x.writes(), 0);
        DUE.is("faults()", x.faults(), 0);
        for (int d = 0; d < 6; d++) {
            DUE.is("position", x.position(d), 5);
            for (int s = 0; s < 5; s++) {
                DUE.is("peek", x.peek(d, s), 0);
            }
        }
        DUE.is("rebuild()", x.rebuild(), DualParityArray.IDLE);
        DUE.is("restart()", x.restart(), DualParityArray.UP);
    }

    private static void blocksLieWhereTheLayoutSays() {
        DualParityArray x = new DualParityArray(4, 6, 0);
        // P lies on 3, 2, 1, 0, 3, 2.
        int[] want = {1, 2, 0, 1, 3, 0, 2, 3, 1, 2, 0, 1};
        for (int block = 0; block < want.length; block++) {
            DUE.is("locate(" + block + ") of 4 disks", x.locate(block), want[block]);
        }
        DualParityArray y = new DualParityArray(5, 2, 0);
        int[] wantOfFive = {1, 2, 3, 0, 1, 2};
        for (int block = 0; block < wantOfFive.length; block++) {
            DUE.is("locate(" + block + ") of 5 disks", y.locate(block), wantOfFive[block]);
        }
        x.writeRun(0, 12, 1000);
        for (int block = 0; block < 12; block++) {
            DUE.is("peek of block " + block, x.peek(want[block], block / 2), 1000 + block);
        }
    }

    private static void locateKnowsNoOtherBlocks() {
        DualParityArray x = new DualParityArray(5, 3, 0);
        for (int block : new int[] {-1, 9, 10, Integer.MIN_VALUE, Integer.MAX_VALUE}) {
            DUE.is("locate(" + block + ")", x.locate(block), DualParityArray.BAD);
        }
        DUE.is("locate(8)", x.locate(8), 1);
    }

    private static void locateAnswersInEveryState() {
        DualParityArray x = new DualParityArray(4, 1, 0);
        x.fail(1);
        x.fail(2);
        x.fail(0);
        x.crash();
        DUE.is("locate(0) on a missing disk", x.locate(0), 1);
        DUE.is("locate(1) on a missing disk", x.locate(1), 2);
    }

    private static void parityCellsLieBeforeTheColumns() {
        DualParityArray x = new DualParityArray(4, 4, 0);
        x.writeRun(0, 8, 0);
        x.writeRun(0, 2, 0x80402010);
        // The columns 80402010 and 80402011: P is 1, Q is 80402010 plus 2 times 80402011 (1D804022).
        DUE.is("P of stripe 0", x.peek(3, 0), 1);
        DUE.is("Q of stripe 0", x.peek(0, 0), 0x9DC06032L);
        x.write(6, 0xFF);
        x.write(7, 0x8000);
        DUE.is("P of stripe 3", x.peek(0, 3), 0x80FF);
        DUE.is("Q of stripe 3", x.peek(1, 3), 0x1DFF);
    }

    private static void peekKnowsNoOtherCells() {
        DualParityArray x = new DualParityArray(5, 3, 0);
        int[][] wrong = {{-1, 0}, {5, 0}, {0, -1}, {0, 3}, {5, 3}, {Integer.MIN_VALUE, Integer.MIN_VALUE},
            {Integer.MAX_VALUE, Integer.MAX_VALUE}, {-1, 3}, {1, -3}, {-1, 5}};
        for (int[] cell : wrong) {
            DUE.is("peek(" + cell[0] + ", " + cell[1] + ")", x.peek(cell[0], cell[1]), DualParityArray.BAD);
        }
    }

    private static void peekAnswersInEveryState() {
        DualParityArray x = new DualParityArray(4, 1, 0);
        x.write(0, -1);
        int reads = x.reads();
        DUE.is("peek without sign", x.peek(1, 0), 4294967295L);
        x.crash();
        DUE.is("peek while DOWN", x.peek(1, 0), 4294967295L);
        x.fail(0);
        x.fail(2);
        x.fail(3);
        DUE.is("peek while BROKEN", x.peek(1, 0), 4294967295L);
        DUE.is("peek of a missing disk", x.peek(2, 0), DualParityArray.BAD);
        DUE.is("peek counts nothing", x.reads(), reads);
    }

    private static void peekOfRebuildingDisk() {
        DualParityArray x = new DualParityArray(4, 2, 1);
        x.writeRun(0, 4, 20);
        x.fail(1);
        x.replace(1);
        DUE.is("peek before the rebuilding", x.peek(1, 0), DualParityArray.BAD);
        x.rebuild();
        DUE.is("peek of the stripe done", x.peek(1, 0), 20);
        DUE.is("peek of the stripe to come", x.peek(1, 1), DualParityArray.BAD);
        x.rebuild();
        DUE.is("peek when present again", x.peek(1, 1), 23);
    }
}
