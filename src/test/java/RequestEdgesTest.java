/** The edges of promises 1 (a new object), 2 (read), 3 (write), 4 (writeRun), 20 (reads) and 21 (writes). */
public final class RequestEdgesTest {
    private static final Due DUE = new Due("RequestEdgesTest");
    private static final int MOST = Integer.MAX_VALUE;
    private static final int LEAST = Integer.MIN_VALUE;

    public static void main(String[] args) {
        disksAreFourToTen();
        stripesAreOneToSixteen();
        sparesAreNoneToFour();
        newObjectsHoldNothing();
        readTakesTheFirstAndTheLastBlock();
        readAnswersTheLeastAndTheGreatestWord();
        readTakesOneCellOrAllThatAreThere();
        readRefusesBadThenDownThenBroken();
        writeTakesTheFirstAndTheLastBlock();
        writeIsARunOfOneInEveryState();
        runsAreOneBlockToAllOfThem();
        runsOutsideAreBad();
        runsDoNotWrapRoundTheirNumbers();
        runsGoOverTheEndOfAStripe();
        runsWrapTheirWords();
        runsAnswerTheActsOfAllStripes();
        runsRefuseBadThenDownThenBroken();
        readsCountsTornRequests();
        readsLeavesOutLooks();
        writesCountsActsOnCellsAlone();
        DUE.end();
    }

    private static void sizes(String what, DualParityArray x, int disks, int stripes, int spares) {
        int blocks = stripes * (disks - 2);
        DUE.is(what + "position of the last disk", x.position(disks - 1), stripes);
        DUE.is(what + "position behind the last disk", x.position(disks), DualParityArray.BAD);
        DUE.is(what + "peek of the last stripe", x.peek(disks - 1, stripes - 1), 0);
        DUE.is(what + "peek behind the last stripe", x.peek(disks - 1, stripes), DualParityArray.BAD);
        DUE.is(what + "locate of the last block", x.locate(blocks - 1) >= 0, true);
        DUE.is(what + "locate behind the last block", x.locate(blocks), DualParityArray.BAD);
        DUE.is(what + "spares()", x.spares(), spares);
    }

    /** "less than 4 counts as 4, more than 10 as 10" */
    private static void disksAreFourToTen() {
        int[][] due = {{LEAST, 4}, {-1, 4}, {0, 4}, {3, 4}, {4, 4}, {5, 5}, {9, 9}, {10, 10}, {11, 10}, {MOST, 10}};
        for (int[] row : due) {
            sizes(row[0] + " disks: ", new DualParityArray(row[0], 3, 2), row[1], 3, 2);
        }
    }

    /** "less than 1 counts as 1, more than 16 as 16" */
    private static void stripesAreOneToSixteen() {
        int[][] due = {{LEAST, 1}, {-1, 1}, {0, 1}, {1, 1}, {2, 2}, {15, 15}, {16, 16}, {17, 16}, {MOST, 16}};
        for (int[] row : due) {
            sizes(row[0] + " stripes: ", new DualParityArray(6, row[0], 2), 6, row[1], 2);
        }
    }

    /** "less than 0 counts as 0, more than 4 as 4" */
    private static void sparesAreNoneToFour() {
        int[][] due = {{LEAST, 0}, {-1, 0}, {0, 0}, {1, 1}, {3, 3}, {4, 4}, {5, 4}, {MOST, 4}};
        for (int[] row : due) {
            DualParityArray x = new DualParityArray(6, 3, row[0]);
            sizes(row[0] + " spares: ", x, 6, 3, row[1]);
            for (int d = 0; d < 6; d++) {
                x.fail(d);
                DUE.is("replace(" + d + ") of " + row[0] + " spares", x.replace(d), d < row[1]);
            }
        }
    }

    /** "all disks PRESENT, all words 0, the log empty, not DOWN, nothing armed, nothing counted" */
    private static void newObjectsHoldNothing() {
        int[][] sizes = {{4, 1, 0}, {10, 16, 4}, {LEAST, LEAST, LEAST}, {MOST, MOST, MOST}};
        for (int[] size : sizes) {
            DualParityArray x = new DualParityArray(size[0], size[1], size[2]);
            int disks = size[0] < 10 ? 4 : 10;
            int stripes = size[1] < 16 ? 1 : 16;
            for (int d = 0; d < disks; d++) {
                DUE.is("position(" + d + ")", x.position(d), stripes);
                for (int s = 0; s < stripes; s++) {
                    DUE.is("peek(" + d + ", " + s + ")", x.peek(d, s), 0);
                }
            }
            DUE.is("mode()", x.mode(), 0);
            DUE.is("logged()", x.logged(), -1);
            DUE.is("reads()", x.reads(), 0);
            DUE.is("writes()", x.writes(), 0);
            DUE.is("faults()", x.faults(), 0);
            DUE.is("restart()", x.restart(), DualParityArray.UP);
            DUE.is("rebuild()", x.rebuild(), DualParityArray.IDLE);
            // Were something armed, one of these 128 acts or more would be torn.
            DUE.is("writeRun over all", x.writeRun(0, stripes * (disks - 2), 0), stripes * (2 * disks + 2));
        }
        DualParityArray first = new DualParityArray(4, 1, 1);
        DualParityArray second = new DualParityArray(4, 1, 1);
        first.write(0, 5);
        first.fail(0);
        first.replace(0);
        first.crash();
        sizes("beside another object: ", second, 4, 1, 1);
        DUE.is("mode() beside another object", second.mode(), 0);
        DUE.is("writes() beside another object", second.writes(), 0);
    }

    /** "BAD when there is no such block": blocks are 0 .. S * (N - 2) - 1. */
    private static void readTakesTheFirstAndTheLastBlock() {
        int[][] sizes = {{4, 1}, {4, 16}, {7, 3}, {10, 1}, {10, 16}};
        for (int[] size : sizes) {
            DualParityArray x = new DualParityArray(size[0], size[1], 0);
            int last = size[1] * (size[0] - 2) - 1;
            x.write(0, 11);
            x.write(last, 12);
            DUE.is("read(0)", x.read(0), 11);
            DUE.is("read(" + last + ")", x.read(last), 12);
            int reads = x.reads();
            for (int block : new int[] {-1, last + 1, LEAST, MOST}) {
                DUE.is("read(" + block + ")", x.read(block), DualParityArray.BAD);
            }
            DUE.is("reads() after BAD", x.reads(), reads);
        }
    }

    /** "as a number 0 .. 4294967295 (its 32 bits without sign)" */
    private static void readAnswersTheLeastAndTheGreatestWord() {
        int[] words = {0, 1, MOST, LEAST, -2, -1};
        long[] due = {0, 1, 2147483647L, 2147483648L, 4294967294L, 4294967295L};
        for (int i = 0; i < words.length; i++) {
            DualParityArray x = new DualParityArray(5, 1, 0);
            x.write(1, words[i]);
            DUE.is("read of " + words[i], x.read(1), due[i]);
            x.fail(x.locate(1));
            DUE.is("read of " + words[i] + " by P", x.read(1), due[i]);
            x.fail(4);
            DUE.is("read of " + words[i] + " by Q", x.read(1), due[i]);
        }
    }

    /** "If its cell is available, that one cell is read; otherwise all available cells of its stripe are read." */
    private static void readTakesOneCellOrAllThatAreThere() {
        for (int n = 4; n <= 10; n++) {
            DualParityArray x = new DualParityArray(n, 2, 1);
            x.read(0);
            DUE.is("reads() of one cell of " + n, x.reads(), 1);
            x.fail(2);
            x.read(0);
            DUE.is("reads() beside a missing cell of " + n, x.reads(), 2);
            x.read(1);
            DUE.is("reads() of a missing cell of " + n, x.reads(), 2 + n - 1);
            x.fail(0);
            x.read(1);
            DUE.is("reads() with two missing of " + n, x.reads(), 2 + n - 1 + n - 2);
        }
        DualParityArray y = new DualParityArray(6, 2, 1);
        y.fail(2);
        y.replace(2);
        y.rebuild();
        int reads = y.reads();
        y.read(1);
        DUE.is("reads() of a cell before the position", y.reads(), reads + 1);
        DUE.is("locate(6)", y.locate(6), 2);
        y.read(6);
        DUE.is("reads() of the cell at the position", y.reads(), reads + 1 + 5);
    }

    /** "BAD when there is no such block; else DOWN when the array is DOWN; else BROKEN when it is BROKEN." */
    private static void readRefusesBadThenDownThenBroken() {
        for (int state = 0; state < 4; state++) {
            DualParityArray x = inState(state);
            int due = state % 2 == 1 ? DualParityArray.DOWN : DualParityArray.BROKEN;
            DUE.is("read(6), state " + state, x.read(6), DualParityArray.BAD);
            DUE.is("read(-1), state " + state, x.read(-1), DualParityArray.BAD);
            DUE.is("read(5), state " + state, x.read(5), state == 0 ? 0 : due);
            DUE.is("read(0), state " + state, x.read(0), state == 0 ? 0 : due);
            DUE.is("reads(), state " + state, x.reads(), state == 0 ? 2 : 0);
        }
    }

    /** Of 4 disks and 3 stripes; 1 for DOWN, 2 for BROKEN. */
    private static DualParityArray inState(int state) {
        DualParityArray x = new DualParityArray(4, 3, 0);
        if (state >= 2) {
            x.fail(0);
            x.fail(1);
            x.fail(3);
        }
        if (state % 2 == 1) {
            x.crash();
        }
        return x;
    }

    /** "The block gets the word v" */
    private static void writeTakesTheFirstAndTheLastBlock() {
        int[][] sizes = {{4, 1}, {10, 16}};
        for (int[] size : sizes) {
            DualParityArray x = new DualParityArray(size[0], size[1], 0);
            int last = size[1] * (size[0] - 2) - 1;
            DUE.is("write(0, MIN)", x.write(0, LEAST), 8);
            DUE.is("write(last, MAX)", x.write(last, MOST), 8);
            DUE.is("read(0)", x.read(0), 2147483648L);
            DUE.is("read(last)", x.read(last), 2147483647L);
            int writes = x.writes();
            for (int block : new int[] {-1, last + 1, LEAST, MOST}) {
                DUE.is("write(" + block + ", 1)", x.write(block, 1), DualParityArray.BAD);
            }
            DUE.is("writes() after BAD", x.writes(), writes);
        }
    }

    /** "the same as writeRun(block, 1, v)" */
    private static void writeIsARunOfOneInEveryState() {
        for (int state = 0; state < 4; state++) {
            for (int block = -1; block <= 6; block++) {
                for (int k = 0; k <= 9; k++) {
                    DualParityArray x = inState(state);
                    DualParityArray y = inState(state);
                    x.arm(k);
                    y.arm(k);
                    String what = "write(" + block + ", -7), state " + state + ", arm(" + k + ")";
                    DUE.is(what, x.write(block, -7), y.writeRun(block, 1, -7));
                    DUE.is("seen after " + what, Sight.of(x, 4, 3), Sight.of(y, 4, 3));
                }
            }
        }
    }

    /** "The blocks block, block + 1, .., count of them" */
    private static void runsAreOneBlockToAllOfThem() {
        for (int n = 4; n <= 10; n++) {
            for (int stripes : new int[] {1, 2, 16}) {
                DualParityArray x = new DualParityArray(n, stripes, 0);
                int blocks = stripes * (n - 2);
                DUE.is("the first block", x.writeRun(0, 1, 70), 8);
                DUE.is("the last block", x.writeRun(blocks - 1, 1, 71), 8);
                DUE.is("read(0)", x.read(0), 70);
                DUE.is("read(last)", x.read(blocks - 1), 71);
                DUE.is("all blocks", x.writeRun(0, blocks, 100), stripes * (2 * n + 2));
                for (int block = 0; block < blocks; block++) {
                    DUE.is("read(" + block + ")", x.read(block), 100 + block);
                }
                DUE.is("all but the first", x.writeRun(1, blocks - 1, 500) > 0, true);
                DUE.is("read(0) of all but the first", x.read(0), 100);
                DUE.is("read(last) of all but the first", x.read(blocks - 1), 500 + blocks - 2);
            }
        }
    }

    /** "BAD when count is less than 1 or not all of the blocks are there" */
    private static void runsOutsideAreBad() {
        int[][] sizes = {{4, 1}, {5, 4}, {10, 16}};
        for (int[] size : sizes) {
            DualParityArray x = new DualParityArray(size[0], size[1], 0);
            int blocks = size[1] * (size[0] - 2);
            int[][] runs = {{0, 0}, {0, -1}, {0, blocks + 1}, {1, blocks}, {blocks - 1, 2}, {blocks - 1, 0},
                {blocks, 1}, {blocks, 0}, {-1, 1}, {-1, 2}, {-1, 0}, {-1, blocks + 2}};
            for (int[] run : runs) {
                String what = "writeRun(" + run[0] + ", " + run[1] + ", 7) of " + blocks;
                DUE.is(what, x.writeRun(run[0], run[1], 7), DualParityArray.BAD);
            }
            DUE.is("reads() after BAD", x.reads(), 0);
            DUE.is("writes() after BAD", x.writes(), 0);
            for (int block = 0; block < blocks; block++) {
                DUE.is("read(" + block + ") after BAD", x.read(block), 0);
            }
        }
    }

    /** Not all of the blocks are there, although block + count, as an int, comes out small or below 0. */
    private static void runsDoNotWrapRoundTheirNumbers() {
        DualParityArray x = new DualParityArray(5, 4, 0);
        int[][] runs = {{1, MOST}, {11, MOST}, {0, MOST}, {MOST, 1}, {MOST, MOST}, {MOST, 2}, {LEAST, MOST},
            {LEAST, LEAST}, {LEAST, 1}, {0, LEAST}, {1, LEAST}, {-1, LEAST}, {-12, MOST}, {MOST - 5, 12}};
        for (int[] run : runs) {
            String what = "writeRun(" + run[0] + ", " + run[1] + ", 7)";
            DUE.is(what, x.writeRun(run[0], run[1], 7), DualParityArray.BAD);
        }
        DUE.is("writes()", x.writes(), 0);
    }

    /** "for each stripe that has some of them, in ascending order of the stripes, those columns are written" */
    private static void runsGoOverTheEndOfAStripe() {
        // Of 6 disks: blocks 3 and 4 are the last column of stripe 0 and the first of stripe 1.
        for (int k = 0; k <= 16; k++) {
            DualParityArray x = new DualParityArray(6, 3, 0);
            x.arm(k);
            DUE.is("writeRun(3, 2, 90), arm(" + k + ")", x.writeRun(3, 2, 90), k < 16 ? DualParityArray.TORN : 16);
            DUE.is("block 3, arm(" + k + ")", x.peek(x.locate(3), 0), k >= 5 ? 90 : 0);
            DUE.is("block 4, arm(" + k + ")", x.peek(x.locate(4), 1), k >= 13 ? 91 : 0);
            DUE.is("block 2, arm(" + k + ")", x.peek(x.locate(2), 0), 0);
            DUE.is("block 5, arm(" + k + ")", x.peek(x.locate(5), 1), 0);
            DUE.is("reads(), arm(" + k + ")", x.reads(), k >= 8 ? 6 : 3);
        }
        DualParityArray y = new DualParityArray(6, 3, 0);
        DUE.is("up to the end of a stripe", y.writeRun(0, 4, 90), 14);
        DUE.is("block 3", y.read(3), 93);
        DUE.is("block 4", y.read(4), 0);
        DUE.is("from the beginning of a stripe", y.writeRun(8, 4, 90), 14);
        DUE.is("block 7", y.read(7), 0);
        DUE.is("block 8", y.read(8), 90);
    }

    /** "get the words v, v + 1, .. (wrapping)" */
    private static void runsWrapTheirWords() {
        DualParityArray x = new DualParityArray(5, 2, 0);
        x.writeRun(0, 6, MOST - 2);
        long[] due = {2147483645L, 2147483646L, 2147483647L, 2147483648L, 2147483649L, 2147483650L};
        for (int block = 0; block < 6; block++) {
            DUE.is("read(" + block + ") over the greatest int", x.read(block), due[block]);
        }
        x.writeRun(0, 6, -2);
        long[] dueOverZero = {4294967294L, 4294967295L, 0, 1, 2, 3};
        for (int block = 0; block < 6; block++) {
            DUE.is("read(" + block + ") over 0", x.read(block), dueOverZero[block]);
        }
        DUE.is("faults()", x.faults(), 0);
    }

    /** "Answers the number of acts made; TORN when the array stopped on the way." */
    private static void runsAnswerTheActsOfAllStripes() {
        DualParityArray x = new DualParityArray(5, 4, 0);
        // Columns 2, then 0 to 2, then 0: 8, 12 and 8 acts.
        DUE.is("writeRun(2, 5, 1)", x.writeRun(2, 5, 1), 28);
        DUE.is("the next run begins at 0 again", x.writeRun(2, 5, 1), 28);
        x.arm(27);
        DUE.is("writeRun(2, 5, 1), arm(27)", x.writeRun(2, 5, 1), DualParityArray.TORN);
        x.restart();
        x.arm(28);
        DUE.is("writeRun(2, 5, 1), arm(28)", x.writeRun(2, 5, 1), 28);
        DUE.is("mode()", x.mode(), 4);
        x.arm(1000);
        DUE.is("all blocks", x.writeRun(0, 12, 1), 48);
        DUE.is("with a disk missing", x.fail(0) ? x.writeRun(0, 12, 1) : 0, 44);
    }

    /** "BAD ..; else DOWN when the array is DOWN; else BROKEN when it is BROKEN." */
    private static void runsRefuseBadThenDownThenBroken() {
        for (int state = 1; state < 4; state++) {
            DualParityArray x = inState(state);
            int due = state % 2 == 1 ? DualParityArray.DOWN : DualParityArray.BROKEN;
            DUE.is("writeRun(0, 0, 1), state " + state, x.writeRun(0, 0, 1), DualParityArray.BAD);
            DUE.is("writeRun(0, 7, 1), state " + state, x.writeRun(0, 7, 1), DualParityArray.BAD);
            DUE.is("writeRun(0, 6, 1), state " + state, x.writeRun(0, 6, 1), due);
            DUE.is("write(6, 1), state " + state, x.write(6, 1), DualParityArray.BAD);
            DUE.is("write(5, 1), state " + state, x.write(5, 1), due);
            DUE.is("writes(), state " + state, x.writes(), 0);
            DUE.is("reads(), state " + state, x.reads(), 0);
        }
    }

    /** "How many cells have been read by requests so far, those by requests that ended with TORN included." */
    private static void readsCountsTornRequests() {
        DualParityArray x = new DualParityArray(6, 2, 1);
        x.arm(0);
        DUE.is("write", x.write(0, 1), DualParityArray.TORN);
        DUE.is("reads() after a torn write", x.reads(), 3);
        x.restart();
        x.corrupt(2, 0, 1);
        x.arm(0);
        DUE.is("scrub(0)", x.scrub(0), DualParityArray.TORN);
        DUE.is("reads() after a torn scrub", x.reads(), 9);
        x.restart();
        x.fail(3);
        x.replace(3);
        x.arm(0);
        DUE.is("rebuild()", x.rebuild(), DualParityArray.TORN);
        DUE.is("reads() after a torn rebuild", x.reads(), 14);
        x.restart();
        x.arm(4);
        x.write(4, 1);
        DUE.is("reads() after a write that was torn behind its seal", x.reads(), 19);
        x.arm(1);
        DUE.is("restart()", x.restart(), DualParityArray.TORN);
        x.restart();
        DUE.is("restart() reads no cells", x.reads(), 19);
        DualParityArray y = new DualParityArray(6, 1, 0);
        y.corrupt(2, 0, 1);
        y.corrupt(3, 0, 256);
        DUE.is("scrub(0)", y.scrub(0), DualParityArray.UNSURE);
        DUE.is("reads() after UNSURE", y.reads(), 6);
    }

    /** "(Nothing is counted as read.)" of faults and peek; the other looks read no cells at all. */
    private static void readsLeavesOutLooks() {
        DualParityArray x = new DualParityArray(6, 2, 1);
        x.fail(2);
        x.faults();
        x.peek(0, 0);
        x.peek(2, 0);
        x.locate(1);
        x.position(2);
        x.mode();
        x.logged();
        x.spares();
        x.corrupt(0, 0, 5);
        x.replace(2);
        x.arm(3);
        x.crash();
        x.restart();
        DUE.is("reads()", x.reads(), 0);
        DUE.is("reads() again", x.reads(), 0);
        DUE.is("writes()", x.writes(), 0);
    }

    /** "How many acts that write into a cell have been made so far." */
    private static void writesCountsActsOnCellsAlone() {
        DualParityArray x = new DualParityArray(6, 1, 1);
        x.arm(4);
        x.write(0, 1);
        DUE.is("writes() of the log alone", x.writes(), 0);
        x.arm(1);
        x.restart();
        DUE.is("writes() of a torn restart()", x.writes(), 1);
        x.restart();
        DUE.is("writes() of restart()", x.writes(), 4);
        x.corrupt(2, 0, 1);
        DUE.is("writes() of corrupt", x.writes(), 4);
        x.scrub(0);
        DUE.is("writes() of scrub", x.writes(), 5);
        x.scrub(0);
        DUE.is("writes() of a scrub without a fault", x.writes(), 5);
        x.fail(3);
        x.replace(3);
        x.arm(1);
        x.rebuild();
        DUE.is("writes() of a torn rebuild()", x.writes(), 6);
        x.restart();
        x.rebuild();
        DUE.is("writes() of rebuild()", x.writes(), 7);
        x.write(0, 1);
        DUE.is("writes() of the same word again", x.writes(), 10);
    }
}
