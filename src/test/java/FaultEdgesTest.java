/** The edges of promises 8 (scrub), 9 (corrupt), 13 (faults), 14 (peek) and 15 (locate). */
public final class FaultEdgesTest {
    private static final Due DUE = new Due("FaultEdgesTest");
    private static final int MOST = Integer.MAX_VALUE;
    private static final int LEAST = Integer.MIN_VALUE;

    public static void main(String[] args) {
        scrubTakesTheFirstAndTheLastStripe();
        scrubRefusesBadThenDownThenBrokenThenDegraded();
        scrubIsDegradedByAnyCellOfItsStripe();
        scrubFindsNothing();
        scrubFindsPAlone();
        scrubFindsQAlone();
        scrubFindsTheFirstAndTheLastColumn();
        scrubIsUnsureBehindTheLastColumn();
        scrubIsTornInPlaceOfItsAct();
        corruptTakesTheCornerCells();
        corruptKnowsNoOtherCells();
        corruptNeedsAnAvailableCell();
        corruptWorksInEveryState();
        corruptTakesEveryWord();
        faultsGoFromNoneToAllStripes();
        faultsAreOfTheValues();
        faultsWhileDownAndBroken();
        peekTakesTheCornerCells();
        peekKnowsNoOtherCells();
        peekNeedsAnAvailableCell();
        peekWorksWhileDownAndBroken();
        peekAnswersTheLeastAndTheGreatestWord();
        locateTakesTheFirstAndTheLastBlock();
        locateWorksInEveryState();
        DUE.end();
    }

    /** "BAD when there is no such stripe" */
    private static void scrubTakesTheFirstAndTheLastStripe() {
        for (int stripes : new int[] {1, 2, 16}) {
            DualParityArray x = new DualParityArray(5, stripes, 0);
            for (int s : new int[] {-1, stripes, LEAST, MOST}) {
                DUE.is("scrub(" + s + ") of " + stripes, x.scrub(s), DualParityArray.BAD);
            }
            DUE.is("reads() after BAD", x.reads(), 0);
            x.corrupt(2, 0, 9);
            DUE.is("scrub(0) of " + stripes, x.scrub(0), 3);
            x.corrupt(2, stripes - 1, 9);
            DUE.is("scrub(last) of " + stripes, x.scrub(stripes - 1), 3);
            DUE.is("reads()", x.reads(), 10);
        }
    }

    /** "BAD ..; else DOWN ..; else BROKEN ..; else DEGRADED when a cell of the stripe is not available" */
    private static void scrubRefusesBadThenDownThenBrokenThenDegraded() {
        for (int lost = 0; lost <= 3; lost++) {
            DualParityArray x = new DualParityArray(5, 2, 0);
            for (int d = 0; d < lost; d++) {
                x.fail(d);
            }
            int due = lost == 0 ? 0 : lost < 3 ? DualParityArray.DEGRADED : DualParityArray.BROKEN;
            DUE.is("scrub(2) with " + lost + " lost", x.scrub(2), DualParityArray.BAD);
            DUE.is("scrub(1) with " + lost + " lost", x.scrub(1), due);
            x.crash();
            DUE.is("scrub(2) with " + lost + " lost, DOWN", x.scrub(2), DualParityArray.BAD);
            DUE.is("scrub(-1) with " + lost + " lost, DOWN", x.scrub(-1), DualParityArray.BAD);
            DUE.is("scrub(1) with " + lost + " lost, DOWN", x.scrub(1), DualParityArray.DOWN);
            DUE.is("reads()", x.reads(), lost == 0 ? 5 : 0);
        }
    }

    /** "DEGRADED when a cell of the stripe is not available": a column, P or Q. */
    private static void scrubIsDegradedByAnyCellOfItsStripe() {
        for (int d = 0; d < 6; d++) {
            DualParityArray x = new DualParityArray(6, 2, 1);
            x.fail(d);
            DUE.is("scrub(0) without " + d, x.scrub(0), DualParityArray.DEGRADED);
            DUE.is("scrub(1) without " + d, x.scrub(1), DualParityArray.DEGRADED);
            x.replace(d);
            DUE.is("scrub(0) at the position of " + d, x.scrub(0), DualParityArray.DEGRADED);
            x.rebuild();
            DUE.is("scrub(0) before the position of " + d, x.scrub(0), 0);
            DUE.is("scrub(1) at the position of " + d, x.scrub(1), DualParityArray.DEGRADED);
            x.rebuild();
            DUE.is("scrub(1) when " + d + " is PRESENT", x.scrub(1), 0);
        }
    }

    /** "Both 0: the answer is 0."; "Otherwise all its N cells are read." */
    private static void scrubFindsNothing() {
        for (int n = 4; n <= 10; n++) {
            DualParityArray x = new DualParityArray(n, 1, 0);
            x.writeRun(0, n - 2, -3);
            int reads = x.reads();
            int writes = x.writes();
            x.arm(0);
            DUE.is("scrub(0) of " + n, x.scrub(0), 0);
            DUE.is("mode(): no act was made", x.mode(), 4);
            DUE.is("reads()", x.reads(), reads + n);
            DUE.is("writes()", x.writes(), writes);
        }
    }

    /** "Only p not 0: the cell P is at fault." */
    private static void scrubFindsPAlone() {
        for (int n = 4; n <= 10; n++) {
            for (int x : new int[] {1, LEAST, -1}) {
                DualParityArray array = new DualParityArray(n, 1, 0);
                array.writeRun(0, n - 2, 60);
                long before = array.peek(n - 1, 0);
                array.corrupt(n - 1, 0, x);
                DUE.is("scrub(0) of " + n, array.scrub(0), n);
                DUE.is("P", array.peek(n - 1, 0), before);
                DUE.is("faults()", array.faults(), 0);
            }
        }
    }

    /** "Only q not 0: the cell Q is."; "adds p (q when it is Q) to its word" */
    private static void scrubFindsQAlone() {
        for (int n = 4; n <= 10; n++) {
            for (int x : new int[] {1, LEAST, -1}) {
                DualParityArray array = new DualParityArray(n, 1, 0);
                array.writeRun(0, n - 2, 60);
                long before = array.peek(0, 0);
                array.corrupt(0, 0, x);
                DUE.is("scrub(0) of " + n, array.scrub(0), 1);
                DUE.is("Q", array.peek(0, 0), before);
                DUE.is("faults()", array.faults(), 0);
            }
        }
    }

    /** "there is a column i for which q is 2^i times p: that column is at fault"; "1 + the number of its disk" */
    private static void scrubFindsTheFirstAndTheLastColumn() {
        for (int n = 4; n <= 10; n++) {
            for (int i = 0; i < n - 2; i++) {
                for (int x : new int[] {1, 0x80808080, -1}) {
                    DualParityArray array = new DualParityArray(n, 1, 0);
                    array.writeRun(0, n - 2, 60);
                    array.corrupt(1 + i, 0, x);
                    DUE.is("scrub(0) of " + n + ", column " + i, array.scrub(0), 2 + i);
                    DUE.is("column " + i, array.read(i), 60 + i);
                    DUE.is("writes()", array.writes(), n + 1);
                }
            }
        }
        // Where the row of disks wraps: column 2 of stripe 1 of five disks is on 2, P on 3, Q on 4.
        DualParityArray y = new DualParityArray(5, 2, 0);
        y.corrupt(0, 1, 5);
        DUE.is("column 0 of stripe 1", y.scrub(1), 1);
        y.corrupt(2, 1, 5);
        DUE.is("column 2 of stripe 1", y.scrub(1), 3);
        y.corrupt(3, 1, 5);
        DUE.is("P of stripe 1", y.scrub(1), 4);
        y.corrupt(4, 1, 5);
        DUE.is("Q of stripe 1", y.scrub(1), 5);
    }

    /** "There is none: the answer is UNSURE, and no act is made." */
    private static void scrubIsUnsureBehindTheLastColumn() {
        int[] powers = {1, 2, 4, 8, 16, 32, 64, 128, 29};
        for (int n = 4; n <= 10; n++) {
            for (int i = 0; i <= 8; i++) {
                DualParityArray x = new DualParityArray(n, 1, 0);
                x.corrupt(n - 1, 0, 1);
                x.corrupt(0, 0, powers[i]);
                x.arm(1);
                int due = i < n - 2 ? 2 + i : DualParityArray.UNSURE;
                DUE.is("scrub(0) of " + n + " with q = 2^" + i + " p", x.scrub(0), due);
                DUE.is("writes()", x.writes(), i < n - 2 ? 1 : 0);
                DUE.is("reads()", x.reads(), n);
                DUE.is("P stays", x.peek(n - 1, 0), 1);
                DUE.is("Q stays", x.peek(0, 0), powers[i]);
                DUE.is("faults()", x.faults(), i < n - 2 ? 0 : 1);
            }
        }
        // Each byte for itself would be a column's fault, but not of the same column.
        DualParityArray y = new DualParityArray(6, 1, 0);
        y.corrupt(5, 0, 0x0101);
        y.corrupt(0, 0, 0x0102);
        y.arm(0);
        DUE.is("scrub(0) with bytes of two columns", y.scrub(0), DualParityArray.UNSURE);
        DUE.is("mode(): no act was made", y.mode(), 4);
        // Half of 1 is 142: q is 2^-1 times p, and no column has that.
        DualParityArray z = new DualParityArray(10, 1, 0);
        z.corrupt(9, 0, 1);
        z.corrupt(0, 0, 142);
        DUE.is("scrub(0) with q the half of p", z.scrub(0), DualParityArray.UNSURE);
    }

    /** "TORN when the array stopped in place of this act" */
    private static void scrubIsTornInPlaceOfItsAct() {
        for (int d = 0; d < 5; d++) {
            DualParityArray x = new DualParityArray(5, 1, 0);
            x.corrupt(d, 0, 7);
            x.arm(0);
            DUE.is("scrub(0), arm(0)", x.scrub(0), DualParityArray.TORN);
            DUE.is("mode()", x.mode(), 1);
            DUE.is("peek", x.peek(d, 0), 7);
            DUE.is("reads()", x.reads(), 5);
            DUE.is("writes()", x.writes(), 0);
            x.restart();
            x.arm(1);
            DUE.is("scrub(0), arm(1)", x.scrub(0), 1 + d);
            DUE.is("mode()", x.mode(), 4);
            DUE.is("peek", x.peek(d, 0), 0);
        }
    }

    /** "Adds x to the word in the cell of disk d in stripe s" */
    private static void corruptTakesTheCornerCells() {
        int[][] sizes = {{4, 1}, {6, 3}, {10, 16}};
        for (int[] size : sizes) {
            for (int d : new int[] {0, size[0] - 1}) {
                for (int s : new int[] {0, size[1] - 1}) {
                    DualParityArray x = new DualParityArray(size[0], size[1], 0);
                    DUE.is("corrupt(" + d + ", " + s + ", 12)", x.corrupt(d, s, 12), true);
                    DUE.is("peek(" + d + ", " + s + ")", x.peek(d, s), 12);
                    DUE.is("faults(): one cell alone", x.faults(), 1);
                    DUE.is("scrub(" + s + ")", x.scrub(s), 1 + d);
                }
            }
        }
    }

    /** "false, changing nothing, when there is no such cell" */
    private static void corruptKnowsNoOtherCells() {
        int[][] sizes = {{4, 1}, {6, 3}, {10, 16}};
        for (int[] size : sizes) {
            DualParityArray x = new DualParityArray(size[0], size[1], 0);
            String before = Sight.of(x, size[0], size[1]);
            for (int[] cell : outside(size[0], size[1])) {
                String what = "corrupt(" + cell[0] + ", " + cell[1] + ", 12)";
                DUE.is(what, x.corrupt(cell[0], cell[1], 12), false);
            }
            DUE.is("seen after those", Sight.of(x, size[0], size[1]), before);
        }
    }

    private static int[][] outside(int disks, int stripes) {
        return new int[][] {{-1, 0}, {disks, 0}, {0, -1}, {0, stripes}, {-1, stripes - 1}, {disks, stripes - 1},
            {disks - 1, -1}, {disks - 1, stripes}, {-1, -1}, {disks, stripes}, {-1, stripes}, {disks, -1},
            {LEAST, 0}, {MOST, 0}, {0, LEAST}, {0, MOST}, {LEAST, LEAST}, {MOST, MOST}};
    }

    /** "false, changing nothing, when .. it is not available" */
    private static void corruptNeedsAnAvailableCell() {
        DualParityArray x = new DualParityArray(5, 2, 1);
        x.fail(1);
        DUE.is("corrupt(1, 0, 3) when MISSING", x.corrupt(1, 0, 3), false);
        x.replace(1);
        DUE.is("corrupt(1, 0, 3) at the position", x.corrupt(1, 0, 3), false);
        x.rebuild();
        DUE.is("corrupt(1, 1, 3) at the position", x.corrupt(1, 1, 3), false);
        x.rebuild();
        DUE.is("peek(1, 0)", x.peek(1, 0), 0);
        DUE.is("peek(1, 1)", x.peek(1, 1), 0);
        DUE.is("faults()", x.faults(), 0);
        DUE.is("corrupt(1, 1, 3) when PRESENT", x.corrupt(1, 1, 3), true);
    }

    /** "whatever state the array is in (no act, nothing counted)" */
    private static void corruptWorksInEveryState() {
        DualParityArray x = new DualParityArray(5, 2, 0);
        x.arm(0);
        DUE.is("corrupt while a stop is armed", x.corrupt(4, 1, 1), true);
        DUE.is("mode()", x.mode(), 4);
        x.crash();
        DUE.is("corrupt while DOWN", x.corrupt(4, 1, 2), true);
        x.fail(0);
        x.fail(1);
        x.fail(2);
        DUE.is("corrupt while DOWN and BROKEN", x.corrupt(4, 1, 4), true);
        DUE.is("peek(4, 1)", x.peek(4, 1), 7);
        DUE.is("reads()", x.reads(), 0);
        DUE.is("writes()", x.writes(), 0);
        // The words of a sealed entry take the place of what was added.
        DualParityArray y = new DualParityArray(4, 1, 0);
        y.arm(4);
        y.write(0, 5);
        y.corrupt(1, 0, 0x70);
        DUE.is("peek before restart()", y.peek(1, 0), 0x70);
        y.restart();
        DUE.is("peek after restart()", y.peek(1, 0), 5);
    }

    /** "Adds x": 0 changes no word, but is true; twice the same is undone. */
    private static void corruptTakesEveryWord() {
        for (int word : new int[] {0, 1, -1, MOST, LEAST}) {
            DualParityArray x = new DualParityArray(4, 1, 0);
            x.write(0, 0x0F0F0F0F);
            DUE.is("corrupt(1, 0, " + word + ")", x.corrupt(1, 0, word), true);
            DUE.is("peek(1, 0)", x.peek(1, 0), (0x0F0F0F0F ^ word) & 0xFFFFFFFFL);
            DUE.is("faults()", x.faults(), word == 0 ? 0 : 1);
            x.corrupt(1, 0, word);
            DUE.is("peek(1, 0) again", x.peek(1, 0), 0x0F0F0F0F);
            DUE.is("faults() again", x.faults(), 0);
        }
    }

    /** "The number of stripes whose values do not meet both equations" */
    private static void faultsGoFromNoneToAllStripes() {
        for (int stripes : new int[] {1, 5, 16}) {
            DualParityArray x = new DualParityArray(7, stripes, 0);
            DUE.is("faults() of none", x.faults(), 0);
            for (int s = stripes - 1; s >= 0; s--) {
                x.corrupt(s % 7, s, LEAST);
                DUE.is("faults() from " + s + " on", x.faults(), stripes - s);
            }
        }
        // One equation alone: P makes the first one fail, Q the second; a column makes both fail.
        for (int d = 0; d < 4; d++) {
            DualParityArray y = new DualParityArray(4, 1, 0);
            y.corrupt(d, 0, 1);
            DUE.is("faults() by disk " + d, y.faults(), 1);
        }
        // Two columns with the same fault: the first equation is met, the second is not.
        DualParityArray z = new DualParityArray(4, 1, 0);
        z.corrupt(1, 0, 1);
        z.corrupt(2, 0, 1);
        DUE.is("faults() by the second equation alone", z.faults(), 1);
    }

    /** "whose values": those of cells that are not available are as THE VALUES says. */
    private static void faultsAreOfTheValues() {
        // Of 5 disks in stripe 0: Q on 0, columns on 1 to 3, P on 4. The fault is in column 1.
        int[][] lost = {{}, {2}, {1}, {3}, {0}, {4}, {0, 4}, {1, 3}, {1, 0}, {1, 4}, {2, 0}, {2, 4}};
        int[] due = {1, 0, 1, 1, 1, 1, 0, 0, 0, 0, 0, 0};
        for (int i = 0; i < lost.length; i++) {
            DualParityArray x = new DualParityArray(5, 1, 0);
            x.writeRun(0, 3, 400);
            x.corrupt(2, 0, 6);
            for (int d : lost[i]) {
                x.fail(d);
            }
            DUE.is("faults(), case " + i, x.faults(), due[i]);
        }
    }

    /** "also while the array is DOWN; BROKEN when it is BROKEN. (Nothing is counted as read.)" */
    private static void faultsWhileDownAndBroken() {
        DualParityArray x = new DualParityArray(6, 3, 0);
        x.corrupt(5, 2, 1);
        DUE.is("faults()", x.faults(), 1);
        x.crash();
        DUE.is("faults() while DOWN", x.faults(), 1);
        x.fail(0);
        x.fail(1);
        // Columns 1 and 2 of stripe 2 are lost: their values meet both equations.
        DUE.is("faults() with two missing while DOWN", x.faults(), 0);
        x.fail(2);
        DUE.is("faults() while DOWN and BROKEN", x.faults(), DualParityArray.BROKEN);
        DualParityArray y = new DualParityArray(6, 3, 0);
        y.fail(0);
        y.fail(1);
        y.fail(2);
        DUE.is("faults() while BROKEN", y.faults(), DualParityArray.BROKEN);
        DUE.is("reads()", x.reads() + y.reads(), 0);
    }

    /** "The word in the cell of disk d in stripe s" */
    private static void peekTakesTheCornerCells() {
        int[][] sizes = {{4, 1}, {6, 3}, {10, 16}};
        for (int[] size : sizes) {
            DualParityArray x = new DualParityArray(size[0], size[1], 0);
            for (int d : new int[] {0, size[0] - 1}) {
                for (int s : new int[] {0, size[1] - 1}) {
                    long before = x.peek(d, s);
                    x.corrupt(d, s, 1 + 2 * d + 64 * s);
                    DUE.is("peek(" + d + ", " + s + ")", x.peek(d, s), before ^ (1 + 2 * d + 64 * s));
                }
            }
        }
    }

    /** "BAD when there is no such cell" */
    private static void peekKnowsNoOtherCells() {
        int[][] sizes = {{4, 1}, {6, 3}, {10, 16}};
        for (int[] size : sizes) {
            DualParityArray x = new DualParityArray(size[0], size[1], 0);
            for (int[] cell : outside(size[0], size[1])) {
                String what = "peek(" + cell[0] + ", " + cell[1] + ")";
                DUE.is(what, x.peek(cell[0], cell[1]), DualParityArray.BAD);
            }
        }
    }

    /** "BAD when .. it is not available" */
    private static void peekNeedsAnAvailableCell() {
        DualParityArray x = new DualParityArray(5, 2, 1);
        x.writeRun(0, 6, 50);
        x.fail(1);
        DUE.is("peek(1, 0) when MISSING", x.peek(1, 0), DualParityArray.BAD);
        x.replace(1);
        DUE.is("peek(1, 0) at the position", x.peek(1, 0), DualParityArray.BAD);
        x.rebuild();
        DUE.is("peek(1, 0) before the position", x.peek(1, 0), 50);
        DUE.is("peek(1, 1) at the position", x.peek(1, 1), DualParityArray.BAD);
        x.rebuild();
        DUE.is("peek(1, 1) when PRESENT", x.peek(1, 1), 54);
    }

    /** "also while the array is DOWN or BROKEN"; "(Nothing is counted as read.)" */
    private static void peekWorksWhileDownAndBroken() {
        DualParityArray x = new DualParityArray(5, 1, 0);
        x.corrupt(4, 0, 33);
        x.crash();
        DUE.is("peek(4, 0) while DOWN", x.peek(4, 0), 33);
        x.fail(0);
        x.fail(1);
        x.fail(2);
        DUE.is("peek(4, 0) while DOWN and BROKEN", x.peek(4, 0), 33);
        DUE.is("peek(2, 0) while DOWN and BROKEN", x.peek(2, 0), DualParityArray.BAD);
        DUE.is("reads()", x.reads(), 0);
        DualParityArray y = new DualParityArray(4, 1, 0);
        y.corrupt(3, 0, 33);
        y.fail(0);
        y.fail(1);
        y.fail(2);
        DUE.is("peek(3, 0) while BROKEN", y.peek(3, 0), 33);
    }

    /** "as a number 0 .. 4294967295" */
    private static void peekAnswersTheLeastAndTheGreatestWord() {
        int[] words = {0, 1, MOST, LEAST, -2, -1};
        long[] due = {0, 1, 2147483647L, 2147483648L, 4294967294L, 4294967295L};
        for (int i = 0; i < words.length; i++) {
            DualParityArray x = new DualParityArray(4, 1, 0);
            x.corrupt(2, 0, words[i]);
            DUE.is("peek of " + words[i], x.peek(2, 0), due[i]);
        }
    }

    /** "BAD when there is no such block" */
    private static void locateTakesTheFirstAndTheLastBlock() {
        // Disks, stripes, where the first block lies, where the last one lies.
        int[][] rows = {{4, 1, 1, 2}, {4, 4, 1, 3}, {4, 16, 1, 3}, {5, 2, 1, 2}, {10, 1, 1, 8}, {10, 10, 1, 9},
            {10, 16, 1, 3}};
        for (int[] row : rows) {
            DualParityArray x = new DualParityArray(row[0], row[1], 0);
            int last = row[1] * (row[0] - 2) - 1;
            DUE.is("locate(0)", x.locate(0), row[2]);
            DUE.is("locate(" + last + ")", x.locate(last), row[3]);
            for (int block : new int[] {-1, last + 1, LEAST, MOST}) {
                DUE.is("locate(" + block + ")", x.locate(block), DualParityArray.BAD);
            }
        }
    }

    /** "The number of the disk that holds the cell of a block, PRESENT or not" */
    private static void locateWorksInEveryState() {
        DualParityArray x = new DualParityArray(4, 2, 1);
        x.fail(1);
        DUE.is("locate(0) on a MISSING disk", x.locate(0), 1);
        x.replace(1);
        DUE.is("locate(0) on a REBUILDING disk", x.locate(0), 1);
        x.crash();
        DUE.is("locate(0) while DOWN", x.locate(0), 1);
        for (int d = 0; d < 4; d++) {
            x.fail(d);
        }
        DUE.is("locate(0) with no disk at all", x.locate(0), 1);
        DUE.is("locate(3) with no disk at all", x.locate(3), 1);
        DUE.is("locate(4) with no disk at all", x.locate(4), DualParityArray.BAD);
    }
}
