/** Promises 2 (read), 3 (write), 4 (writeRun), 20 (reads) and 21 (writes). */
public final class ReadWriteTest {
    private static final Due DUE = new Due("ReadWriteTest");

    public static void main(String[] args) {
        readAnswersWithoutSign();
        readCountsItsCells();
        readRefusesInOrder();
        anyTwoDisksMayBeMissing();
        writesReachMissingCells();
        valuesOfFaultyStripes();
        writeIsARunOfOne();
        runsGoOverStripes();
        runsWrapTheirWords();
        runsRefuseWrongBlocks();
        runsRefuseInOrder();
        cellsReadForAWrite();
        cellsReadForADegradedWrite();
        differencesKeepAGap();
        otherWritesMakeTheParitiesAnew();
        missingCellsAreNotWritten();
        DUE.end();
    }

    private static void readAnswersWithoutSign() {
        DualParityArray x = new DualParityArray(4, 1, 0);
        x.write(0, -1);
        x.write(1, Integer.MIN_VALUE);
        DUE.is("read(0)", x.read(0), 4294967295L);
        DUE.is("read(1)", x.read(1), 2147483648L);
        x.fail(1);
        x.fail(2);
        DUE.is("read(0) of a missing disk", x.read(0), 4294967295L);
        DUE.is("read(1) of a missing disk", x.read(1), 2147483648L);
    }

    private static void readCountsItsCells() {
        DualParityArray x = new DualParityArray(7, 2, 0);
        x.read(0);
        DUE.is("reads() of one cell", x.reads(), 1);
        x.fail(x.locate(0));
        x.read(1);
        DUE.is("reads() of a cell beside the missing one", x.reads(), 2);
        x.read(0);
        DUE.is("reads() with one disk missing", x.reads(), 8);
        x.fail(x.locate(1));
        x.read(0);
        DUE.is("reads() with two disks missing", x.reads(), 13);
        x.read(10);
        x.read(-1);
        x.crash();
        x.read(0);
        DUE.is("reads() after refusals", x.reads(), 13);
        DUE.is("writes() of reads", x.writes(), 0);
    }

    private static void readRefusesInOrder() {
        DualParityArray x = new DualParityArray(4, 3, 0);
        for (int block : new int[] {-1, 6, Integer.MIN_VALUE, Integer.MAX_VALUE}) {
            DUE.is("read(" + block + ")", x.read(block), DualParityArray.BAD);
        }
        x.fail(0);
        x.fail(1);
        DUE.is("read(0) with two missing", x.read(0), 0);
        x.fail(2);
        DUE.is("read(0) while BROKEN", x.read(0), DualParityArray.BROKEN);
        DUE.is("read(1) of a broken array", x.read(1), DualParityArray.BROKEN);
        DUE.is("read(6) while BROKEN", x.read(6), DualParityArray.BAD);
        x.crash();
        DUE.is("read(0) while DOWN and BROKEN", x.read(0), DualParityArray.DOWN);
        DUE.is("read(6) while DOWN and BROKEN", x.read(6), DualParityArray.BAD);
    }

    private static int sample(int block) {
        return (block + 1) * 0x9E3779B9;
    }

    private static void anyTwoDisksMayBeMissing() {
        for (int n = 4; n <= 10; n++) {
            for (int first = 0; first < n; first++) {
                for (int second = first; second < n; second++) {
                    DualParityArray x = new DualParityArray(n, n, 0);
                    int blocks = n * (n - 2);
                    for (int block = 0; block < blocks; block++) {
                        x.write(block, sample(block));
                    }
                    x.fail(first);
                    x.fail(second);
                    for (int block = 0; block < blocks; block++) {
                        DUE.is("read(" + block + ") of " + n + " without " + first + ", " + second,
                            x.read(block), sample(block) & 0xFFFFFFFFL);
                    }
                    DUE.is("faults()", x.faults(), 0);
                }
            }
        }
    }

    private static void writesReachMissingCells() {
        for (int n = 4; n <= 10; n++) {
            for (int first = 0; first < n; first++) {
                for (int second = first; second < n; second++) {
                    DualParityArray x = new DualParityArray(n, n, 0);
                    int blocks = n * (n - 2);
                    x.fail(first);
                    x.fail(second);
                    for (int block = 0; block < blocks; block++) {
                        x.write(block, sample(block));
                    }
                    for (int block = 0; block < blocks; block++) {
                        DUE.is("read(" + block + ") of " + n + ", written without " + first + ", " + second,
                            x.read(block), sample(block) & 0xFFFFFFFFL);
                    }
                }
            }
        }
    }

    private static void valuesOfFaultyStripes() {
        // Of 4 disks in stripe 0: Q on 0, the columns on 1 and 2, P on 3.
        DualParityArray x = new DualParityArray(4, 1, 0);
        x.writeRun(0, 2, 10);
        x.corrupt(0, 0, 7);
        x.fail(1);
        DUE.is("one column missing: by P, whatever Q is", x.read(0), 10);
        DualParityArray y = new DualParityArray(4, 1, 0);
        y.writeRun(0, 2, 10);
        y.corrupt(3, 0, 7);
        y.fail(1);
        DUE.is("one column missing: by a faulty P", y.read(0), 10 ^ 7);
        DualParityArray z = new DualParityArray(4, 1, 0);
        z.writeRun(0, 2, 10);
        z.corrupt(0, 0, 0x80);
        z.fail(3);
        z.fail(2);
        // Half of 0x80 is 0x40.
        DUE.is("column 1 and P missing: by Q", z.read(1), 11 ^ 0x40);
    }

    private static void writeIsARunOfOne() {
        DualParityArray x = new DualParityArray(6, 2, 0);
        DualParityArray y = new DualParityArray(6, 2, 0);
        for (int block = -1; block <= 8; block++) {
            DUE.is("write(" + block + ")", x.write(block, block * 77), y.writeRun(block, 1, block * 77));
            DUE.is("reads()", x.reads(), y.reads());
            DUE.is("writes()", x.writes(), y.writes());
        }
        DUE.is("write(3, 5)", x.write(3, 5), 8);
        DUE.is("read(3)", x.read(3), 5);
        DUE.is("write(8, 5)", x.write(8, 5), DualParityArray.BAD);
        x.crash();
        DUE.is("write while DOWN", x.write(3, 6), DualParityArray.DOWN);
        DUE.is("write(8, 5) while DOWN", x.write(8, 5), DualParityArray.BAD);
        x.restart();
        DUE.is("read(3) again", x.read(3), 5);
    }

    private static void runsGoOverStripes() {
        DualParityArray x = new DualParityArray(5, 4, 0);
        // Columns 2, then 0 1 2, then 0: 1, 3 and 1 of them; acts 2t + 6 a stripe.
        DUE.is("writeRun(2, 5, 100)", x.writeRun(2, 5, 100), 8 + 12 + 8);
        int[] want = {0, 0, 100, 101, 102, 103, 104, 0, 0, 0, 0, 0};
        for (int block = 0; block < 12; block++) {
            DUE.is("read(" + block + ")", x.read(block), want[block]);
        }
        DUE.is("writes()", x.writes(), 3 + 5 + 3);
        DUE.is("faults()", x.faults(), 0);
        DUE.is("the last block", x.writeRun(11, 1, 9), 8);
        DUE.is("all blocks", x.writeRun(0, 12, 9), 48);
    }

    private static void runsWrapTheirWords() {
        DualParityArray x = new DualParityArray(4, 2, 0);
        x.writeRun(0, 4, Integer.MAX_VALUE - 1);
        DUE.is("read(1)", x.read(1), 2147483647L);
        DUE.is("read(2)", x.read(2), 2147483648L);
        x.writeRun(0, 4, -2);
        DUE.is("read(1)", x.read(1), 4294967295L);
        DUE.is("read(3)", x.read(3), 1L);
    }

    private static void runsRefuseWrongBlocks() {
        DualParityArray x = new DualParityArray(5, 4, 0);
        int most = Integer.MAX_VALUE;
        int[][] wrong = {{0, 0}, {0, -1}, {-1, 1}, {-1, 2}, {12, 1}, {11, 2}, {0, 13}, {1, most}, {most, 1},
            {most, most}, {Integer.MIN_VALUE, 1}, {0, Integer.MIN_VALUE}, {12, 0}, {5, 8}, {-5, most}};
        for (int[] run : wrong) {
            String what = "writeRun(" + run[0] + ", " + run[1] + ", 5)";
            DUE.is(what, x.writeRun(run[0], run[1], 5), DualParityArray.BAD);
        }
        for (int block = 0; block < 12; block++) {
            DUE.is("read(" + block + ")", x.read(block), 0);
        }
        DUE.is("reads()", x.reads(), 12);
        DUE.is("writes()", x.writes(), 0);
    }

    private static void runsRefuseInOrder() {
        DualParityArray x = new DualParityArray(5, 4, 0);
        x.fail(0);
        x.fail(1);
        DUE.is("writeRun with two missing", x.writeRun(0, 3, 5) > 0, true);
        int reads = x.reads();
        int writes = x.writes();
        x.fail(2);
        x.arm(0);
        DUE.is("writeRun while BROKEN", x.writeRun(0, 3, 5), DualParityArray.BROKEN);
        DUE.is("wrong writeRun while BROKEN", x.writeRun(0, 13, 5), DualParityArray.BAD);
        DUE.is("mode() still armed", x.mode(), 6);
        x.crash();
        DUE.is("writeRun while DOWN", x.writeRun(0, 3, 5), DualParityArray.DOWN);
        DUE.is("wrong writeRun while DOWN", x.writeRun(0, 0, 5), DualParityArray.BAD);
        DUE.is("reads()", x.reads(), reads);
        DUE.is("writes()", x.writes(), writes);
    }

    private static void cellsReadForAWrite() {
        // By the number t of columns, from 1 on: t + 2 where this is less than the others, else the others.
        int[][] want = {{}, {}, {}, {}, {1, 0}, {2, 1, 0}, {3, 2, 1, 0}, {3, 3, 2, 1, 0}, {3, 4, 3, 2, 1, 0},
            {3, 4, 4, 3, 2, 1, 0}, {3, 4, 5, 4, 3, 2, 1, 0}};
        for (int n = 4; n <= 10; n++) {
            DualParityArray x = new DualParityArray(n, 1, 0);
            int sum = 0;
            int written = 0;
            for (int t = 1; t <= n - 2; t++) {
                DUE.is("acts of " + t, x.writeRun(n - 2 - t, t, 31 * t), 2 * t + 6);
                sum += want[n][t - 1];
                written += t + 2;
                DUE.is("reads() of " + n + " for " + t, x.reads(), sum);
                DUE.is("writes() of " + n + " for " + t, x.writes(), written);
            }
        }
    }

    private static void cellsReadForADegradedWrite() {
        DualParityArray x = new DualParityArray(10, 2, 1);
        x.fail(9);
        x.writeRun(0, 8, 1);
        DUE.is("reads() for a whole stripe with P missing", x.reads(), 9);
        DUE.is("writes() for a whole stripe with P missing", x.writes(), 9);
        x.fail(3);
        x.write(0, 1);
        DUE.is("reads() with two missing", x.reads(), 17);
        DUE.is("writes() with P missing and column 2", x.writes(), 11);
        x.replace(9);
        x.write(0, 1);
        DUE.is("reads() before the rebuilding", x.reads(), 25);
        x.rebuild();
        DUE.is("reads() after a step", x.reads(), 33);
        x.write(0, 1);
        DUE.is("reads() of a write behind the position", x.reads(), 42);
    }

    private static void differencesKeepAGap() {
        DualParityArray x = new DualParityArray(10, 1, 0);
        x.writeRun(0, 8, 50);
        long p = x.peek(9, 0);
        long q = x.peek(0, 0);
        x.corrupt(9, 0, 0x100);
        x.corrupt(0, 0, 0x200);
        // Column 3 from 53 to 52 and column 4 from 54 to 53: differences 1 and 3.
        x.writeRun(3, 2, 52);
        DUE.is("P with its gap", x.peek(9, 0), p ^ 0x100 ^ 1 ^ 3);
        DUE.is("Q with its gap", x.peek(0, 0), q ^ 0x200 ^ 8 ^ 48);
        int[] want = {50, 51, 52, 52, 53, 55, 56, 57};
        for (int block = 0; block < 8; block++) {
            DUE.is("read(" + block + ")", x.read(block), want[block]);
        }
        DUE.is("faults()", x.faults(), 1);
    }

    private static void otherWritesMakeTheParitiesAnew() {
        DualParityArray x = new DualParityArray(6, 1, 0);
        x.writeRun(0, 4, 50);
        x.corrupt(5, 0, 0x100);
        x.corrupt(0, 0, 0x200);
        x.corrupt(1, 0, 0x400);
        DUE.is("faults()", x.faults(), 1);
        x.write(3, 9);
        DUE.is("faults() after the write", x.faults(), 0);
        DUE.is("the fault of column 0 stays", x.read(0), 50 ^ 0x400);
    }

    private static void missingCellsAreNotWritten() {
        DualParityArray x = new DualParityArray(6, 1, 0);
        x.fail(5);
        x.fail(0);
        DUE.is("acts without P and Q", x.write(0, 3), 3 + 1 + 1 + 1);
        DUE.is("writes() without P and Q", x.writes(), 1);
        DualParityArray y = new DualParityArray(6, 1, 0);
        y.fail(1);
        y.fail(2);
        DUE.is("acts without the columns", y.writeRun(0, 2, 3), 4 + 1 + 2 + 1);
        DUE.is("writes() without the columns", y.writes(), 2);
        DUE.is("read(0)", y.read(0), 3);
        DUE.is("read(1)", y.read(1), 4);
    }
}
