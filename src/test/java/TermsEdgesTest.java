/** The edges that the document names under "Terms", a sentence a test. */
public final class TermsEdgesTest {
    private static final Due DUE = new Due("TermsEdgesTest");

    public static void main(String[] args) {
        doublingTurnsAt128();
        doublingKeepsBytesApart();
        powersGoFromNoneToSeven();
        layoutWrapsBehindTheLastDisk();
        layoutBeginsAnewBehindNStripes();
        blocksBeginAnewWithEachStripe();
        availableEndsAtThePosition();
        brokenBeginsWithThreeDisks();
        brokenCountsADiskUntilItsLastStripe();
        downEndsWhenRestartSucceeds();
        oneLostColumnIsByTheFirstEquation();
        lostColumnWithPIsByTheSecondEquation();
        twoLostColumnsAreByBothEquations();
        lostParitiesAreByTheColumns();
        stopTakesThePlaceOfTheNextAct();
        stopLeavesTheRestUndone();
        wordsThatAreNotSealedAreLost();
        logHoldsTheLastStripeAlone();
        writingReadsTheCellsOfItsCase();
        writingByDifferencesKeepsAGap();
        writingADegradedStripeReadsAllThatIsThere();
        writingADegradedStripeGoesByTheValues();
        writingMakesItsActs();
        DUE.end();
    }

    private static int doubled(int word) {
        int result = 0;
        for (int shift = 0; shift < 32; shift += 8) {
            int x = (word >>> shift) & 255;
            int twice = x < 128 ? 2 * x : (2 * x - 256) ^ 29;
            result |= twice << shift;
        }
        return result;
    }

    private static int times(int i, int word) {
        int result = word;
        for (int n = 0; n < i; n++) {
            result = doubled(result);
        }
        return result;
    }

    private static long wide(int word) {
        return word & 0xFFFFFFFFL;
    }

    /** Q of a stripe whose column 1 alone is not 0. */
    private static long doubledByTheArray(int word) {
        DualParityArray x = new DualParityArray(4, 1, 0);
        x.write(1, word);
        return x.peek(0, 0);
    }

    /** "gives 2x when x is less than 128, else 2x - 256 xor 29 (so 128 gives 29)" */
    private static void doublingTurnsAt128() {
        int[][] due = {{0, 0}, {1, 2}, {64, 128}, {126, 252}, {127, 254}, {128, 29}, {129, 31}, {142, 1}, {255, 227}};
        for (int[] pair : due) {
            for (int shift = 0; shift < 32; shift += 8) {
                String what = pair[0] + " doubled, byte " + shift / 8;
                DUE.is(what, doubledByTheArray(pair[0] << shift), wide(pair[1] << shift));
            }
        }
        for (int x = 0; x < 256; x++) {
            DUE.is(x + " doubled", doubledByTheArray(x), x < 128 ? 2 * x : (2 * x - 256) ^ 29);
        }
    }

    /** "A word is doubled by doubling each of its four bytes" */
    private static void doublingKeepsBytesApart() {
        DUE.is("all bytes 128", doubledByTheArray(0x80808080), 0x1D1D1D1DL);
        DUE.is("all bytes 255", doubledByTheArray(-1), 0xE3E3E3E3L);
        DUE.is("all bytes 127", doubledByTheArray(0x7F7F7F7F), 0xFEFEFEFEL);
        DUE.is("bytes by turns", doubledByTheArray(0x80017F80), 0x1D02FE1DL);
        DUE.is("the sign alone", doubledByTheArray(Integer.MIN_VALUE), 0x1D000000L);
    }

    /** "2^i TIMES a word is the word doubled i times": i is 0 for the first column, 7 for the last of ten disks. */
    private static void powersGoFromNoneToSeven() {
        int[] due = {0x80, 0x1D, 0x3A, 0x74, 0xE8, 0xCD, 0x87, 0x13};
        for (int i = 0; i < 8; i++) {
            DualParityArray x = new DualParityArray(10, 1, 0);
            x.write(i, 0x80000080);
            DUE.is("Q of column " + i, x.peek(0, 0), wide((due[i] << 24) | due[i]));
            DUE.is("P of column " + i, x.peek(9, 0), 0x80000080L);
        }
    }

    /** "the cell Q on the next disk (behind N - 1 comes 0), column 0 on the next one, column 1 on the next" */
    private static void layoutWrapsBehindTheLastDisk() {
        for (int n = 4; n <= 10; n++) {
            for (int s = 0; s < 16; s++) {
                placesOfAStripe(n, s);
            }
        }
    }

    private static void placesOfAStripe(int n, int s) {
        DualParityArray x = new DualParityArray(n, 16, 0);
        int first = s * (n - 2);
        x.write(first, 0x4000);
        x.write(first + 1, 0x80);
        int d = n - 1;
        for (int stripes = 0; stripes < s; stripes++) {
            d = d == 0 ? n - 1 : d - 1;
        }
        // P, Q, column 0, column 1; the further columns hold 0.
        long[] words = {0x4080, 0x401D, 0x4000, 0x80, 0, 0, 0, 0, 0, 0};
        for (int i = 0; i < n; i++) {
            DUE.is("peek(" + d + ", " + s + ") of " + n, x.peek(d, s), words[i]);
            if (i >= 2) {
                DUE.is("locate(" + (first + i - 2) + ") of " + n, x.locate(first + i - 2), d);
            }
            d = d == n - 1 ? 0 : d + 1;
        }
    }

    /** "In stripe s the cell P is on disk N - 1 - (s mod N)" */
    private static void layoutBeginsAnewBehindNStripes() {
        int[] ofP = {3, 2, 1, 0, 3, 2, 1, 0, 3, 2, 1, 0, 3, 2, 1, 0};
        int[] ofQ = {0, 3, 2, 1, 0, 3, 2, 1, 0, 3, 2, 1, 0, 3, 2, 1};
        int[] ofColumn0 = {1, 0, 3, 2, 1, 0, 3, 2, 1, 0, 3, 2, 1, 0, 3, 2};
        int[] ofColumn1 = {2, 1, 0, 3, 2, 1, 0, 3, 2, 1, 0, 3, 2, 1, 0, 3};
        DualParityArray x = new DualParityArray(4, 16, 0);
        for (int s = 0; s < 16; s++) {
            x.write(2 * s, 1);
            x.write(2 * s + 1, 0x80);
            DUE.is("P of stripe " + s, x.peek(ofP[s], s), 0x81);
            DUE.is("Q of stripe " + s, x.peek(ofQ[s], s), 0x1C);
            DUE.is("locate of column 0 of stripe " + s, x.locate(2 * s), ofColumn0[s]);
            DUE.is("locate of column 1 of stripe " + s, x.locate(2 * s + 1), ofColumn1[s]);
        }
        DualParityArray y = new DualParityArray(10, 16, 0);
        // P of stripe 9 is on 0, of stripe 10 on 9 again; column 0 is two disks on.
        DUE.is("column 0 of stripe 9 of ten", y.locate(72), 2);
        DUE.is("column 7 of stripe 9 of ten", y.locate(79), 9);
        DUE.is("column 0 of stripe 10 of ten", y.locate(80), 1);
        DUE.is("column 7 of stripe 10 of ten", y.locate(87), 8);
        DUE.is("column 7 of stripe 15 of ten", y.locate(127), 3);
    }

    /** "Block b (0 .. S * (N - 2) - 1) is column b mod (N - 2) of stripe b / (N - 2)." */
    private static void blocksBeginAnewWithEachStripe() {
        DualParityArray x = new DualParityArray(5, 3, 0);
        x.write(2, 22);
        x.write(3, 33);
        x.write(8, 88);
        DUE.is("block 2: column 2 of stripe 0", x.peek(3, 0), 22);
        DUE.is("block 3: column 0 of stripe 1", x.peek(0, 1), 33);
        DUE.is("block 8: column 2 of stripe 2", x.peek(1, 2), 88);
        DUE.is("block 9: none", x.read(9), DualParityArray.BAD);
        DUE.is("block -1: none", x.read(-1), DualParityArray.BAD);
    }

    /** "AVAILABLE when it is PRESENT, or REBUILDING with a position greater than s" */
    private static void availableEndsAtThePosition() {
        DualParityArray x = new DualParityArray(5, 4, 1);
        x.writeRun(0, 12, 100);
        long[] before = {x.peek(2, 0), x.peek(2, 1), x.peek(2, 2), x.peek(2, 3)};
        x.fail(2);
        x.replace(2);
        for (int position = 0; position <= 4; position++) {
            DUE.is("position(2)", x.position(2), position);
            for (int s = 0; s < 4; s++) {
                long due = s < position ? before[s] : DualParityArray.BAD;
                DUE.is("peek(2, " + s + ") at position " + position, x.peek(2, s), due);
                DUE.is("corrupt(2, " + s + ", 0) at position " + position, x.corrupt(2, s, 0), s < position);
            }
            x.rebuild();
        }
    }

    /** "The array is BROKEN while three or more disks are not PRESENT." */
    private static void brokenBeginsWithThreeDisks() {
        for (int n = 4; n <= 10; n++) {
            DualParityArray x = new DualParityArray(n, 1, 4);
            for (int lost = 1; lost <= n; lost++) {
                x.fail(n - lost);
                DUE.is("mode() with " + lost + " of " + n + " missing", x.mode(), lost < 3 ? 0 : 2);
            }
            for (int d = 0; d < 4; d++) {
                x.replace(d);
                DUE.is("mode() with spares in " + (d + 1) + " places of " + n, x.mode(), 2);
            }
        }
    }

    /** "BROKEN while three or more disks are not PRESENT": one that is REBUILDING is not PRESENT. */
    private static void brokenCountsADiskUntilItsLastStripe() {
        DualParityArray x = new DualParityArray(6, 3, 2);
        x.fail(0);
        x.replace(0);
        x.rebuild();
        x.rebuild();
        x.fail(1);
        DUE.is("mode() with one rebuilding and one missing", x.mode(), 0);
        DUE.is("rebuild() of the last stripe", x.rebuild(), 0);
        x.fail(2);
        DUE.is("mode() with one rebuilt and two missing", x.mode(), 0);
        DUE.is("read(0)", x.read(0), 0);
        DualParityArray y = new DualParityArray(6, 3, 2);
        y.fail(0);
        y.replace(0);
        y.rebuild();
        y.rebuild();
        y.fail(1);
        y.fail(2);
        DUE.is("mode() with one at its last stripe and two missing", y.mode(), 2);
        DUE.is("read(0)", y.read(0), DualParityArray.BROKEN);
    }

    /** "It is DOWN from a stop or crash() on until restart() succeeds." */
    private static void downEndsWhenRestartSucceeds() {
        DualParityArray x = new DualParityArray(4, 1, 0);
        x.arm(4);
        x.write(0, 5);
        DUE.is("mode() after a stop", x.mode(), 1);
        x.arm(0);
        DUE.is("restart() that is torn", x.restart(), DualParityArray.TORN);
        DUE.is("mode() after a torn restart()", x.mode(), 1);
        DUE.is("read(0) after a torn restart()", x.read(0), DualParityArray.DOWN);
        DUE.is("restart() that succeeds", x.restart(), 4);
        DUE.is("mode() after restart()", x.mode(), 0);
        x.crash();
        DUE.is("mode() after crash()", x.mode(), 1);
        x.restart();
        DUE.is("mode() after crash() and restart()", x.mode(), 0);
    }

    /** A stripe of n disks with 0 in its columns: P on n - 1, Q on 0, column i on 1 + i. */
    private static DualParityArray withParities(int n, int p, int q) {
        DualParityArray x = new DualParityArray(n, 1, 0);
        x.corrupt(n - 1, 0, p);
        x.corrupt(0, 0, q);
        return x;
    }

    /** "One column that is not available: its value is what the first equation asks when P is available" */
    private static void oneLostColumnIsByTheFirstEquation() {
        for (int n = 4; n <= 10; n++) {
            for (int i = 0; i < n - 2; i++) {
                DualParityArray x = withParities(n, 0xA5000001, 0x77);
                x.fail(1 + i);
                DUE.is("column " + i + " of " + n + " alone", x.read(i), 0xA5000001L);
                DUE.is("faults()", x.faults(), 1);
                x.fail(0);
                DUE.is("column " + i + " of " + n + " and Q", x.read(i), 0xA5000001L);
                DUE.is("faults()", x.faults(), 0);
            }
        }
    }

    /** "else what the second one asks" */
    private static void lostColumnWithPIsByTheSecondEquation() {
        for (int n = 4; n <= 10; n++) {
            for (int i = 0; i < n - 2; i++) {
                int word = 0xFF80017F;
                DualParityArray x = withParities(n, 0x1234, times(i, word));
                x.fail(n - 1);
                x.fail(1 + i);
                DUE.is("column " + i + " of " + n + " and P", x.read(i), wide(word));
                DUE.is("faults()", x.faults(), 0);
            }
        }
    }

    /** "Two columns that are not available: their values are the only two with which both equations are met." */
    private static void twoLostColumnsAreByBothEquations() {
        int[][] pairs = {{0, 0}, {-1, 0}, {0, -1}, {0x80, 0x7F000000}, {0x01020408, 0x10204080}};
        for (int n = 4; n <= 10; n++) {
            for (int i = 0; i < n - 2; i++) {
                for (int j = i + 1; j < n - 2; j++) {
                    for (int[] pair : pairs) {
                        int q = times(i, pair[0]) ^ times(j, pair[1]);
                        DualParityArray x = withParities(n, pair[0] ^ pair[1], q);
                        x.fail(1 + j);
                        x.fail(1 + i);
                        String what = " of " + n + " without " + i + " and " + j;
                        DUE.is("column " + i + what, x.read(i), wide(pair[0]));
                        DUE.is("column " + j + what, x.read(j), wide(pair[1]));
                        DUE.is("faults()" + what, x.faults(), 0);
                    }
                }
            }
        }
    }

    /** "a P or Q that is not available has the value that its equation asks" */
    private static void lostParitiesAreByTheColumns() {
        for (int lost = 0; lost < 3; lost++) {
            DualParityArray x = new DualParityArray(4, 1, 2);
            x.writeRun(0, 2, 0x80);
            x.corrupt(3, 0, 5);
            x.corrupt(0, 0, 6);
            if (lost != 0) {
                x.fail(3);
                x.replace(3);
            }
            if (lost != 1) {
                x.fail(0);
                x.replace(0);
            }
            DUE.is("faults() without parities, case " + lost, x.faults(), lost == 2 ? 0 : 1);
            x.rebuild();
            x.rebuild();
            DUE.is("P, case " + lost, x.peek(3, 0), lost == 0 ? 1 ^ 5 : 1);
            DUE.is("Q, case " + lost, x.peek(0, 0), lost == 1 ? 0x80 ^ 0x1F ^ 6 : 0x80 ^ 0x1F);
        }
    }

    /** "the array STOPS in place of the next act: that act is not made" */
    private static void stopTakesThePlaceOfTheNextAct() {
        // A write of one column: three words, the seal, column, P, Q, the removal.
        for (int k = 0; k <= 8; k++) {
            DualParityArray x = new DualParityArray(4, 1, 0);
            x.arm(k);
            DUE.is("write after arm(" + k + ")", x.write(0, 9), k < 8 ? DualParityArray.TORN : 8);
            DUE.is("mode() after arm(" + k + ")", x.mode(), k < 8 ? 1 : 4);
            DUE.is("logged() after arm(" + k + ")", x.logged(), k >= 4 && k < 8 ? 0 : -1);
            DUE.is("column after arm(" + k + ")", x.peek(1, 0), k >= 5 ? 9 : 0);
            DUE.is("P after arm(" + k + ")", x.peek(3, 0), k >= 6 ? 9 : 0);
            DUE.is("Q after arm(" + k + ")", x.peek(0, 0), k >= 7 ? 9 : 0);
            DUE.is("writes() after arm(" + k + ")", x.writes(), Math.max(0, Math.min(3, k - 4)));
        }
    }

    /** "the request that would make it ends with the answer TORN and does nothing more .. nothing is armed any more" */
    private static void stopLeavesTheRestUndone() {
        DualParityArray x = new DualParityArray(4, 3, 0);
        // The stop takes the place of the removal from the log in the first of three stripes.
        x.arm(9);
        DUE.is("writeRun(0, 6, 40)", x.writeRun(0, 6, 40), DualParityArray.TORN);
        DUE.is("logged()", x.logged(), 0);
        DUE.is("reads()", x.reads(), 0);
        DUE.is("writes()", x.writes(), 4);
        for (int d = 0; d < 4; d++) {
            DUE.is("stripe 1, disk " + d, x.peek(d, 1), 0);
            DUE.is("stripe 2, disk " + d, x.peek(d, 2), 0);
        }
        DUE.is("restart()", x.restart(), 5);
        DUE.is("mode()", x.mode(), 0);
        DUE.is("writeRun(0, 6, 40) with nothing armed", x.writeRun(0, 6, 40), 30);
    }

    /** "Words put into the log that are not sealed are lost when the array stops." */
    private static void wordsThatAreNotSealedAreLost() {
        for (int t = 1; t <= 8; t++) {
            DualParityArray x = new DualParityArray(10, 1, 0);
            x.arm(t + 2);
            DUE.is("stop in place of the seal of " + t, x.writeRun(0, t, 60), DualParityArray.TORN);
            DUE.is("logged() before the seal", x.logged(), -1);
            DUE.is("restart() before the seal", x.restart(), 0);
            DUE.is("read(0) before the seal", x.read(0), 0);
            x.arm(t + 3);
            DUE.is("stop behind the seal of " + t, x.writeRun(0, t, 60), DualParityArray.TORN);
            DUE.is("logged() behind the seal", x.logged(), 0);
            DUE.is("restart() behind the seal", x.restart(), t + 3);
            DUE.is("read(0) behind the seal", x.read(0), 60);
        }
    }

    /** "THE LOG holds at most one SEALED entry: a stripe and new words for some of its columns, for P and for Q." */
    private static void logHoldsTheLastStripeAlone() {
        DualParityArray x = new DualParityArray(4, 3, 0);
        // Ten acts for stripe 0, then five for stripe 1, of which the last seals.
        x.arm(15);
        x.writeRun(0, 6, 40);
        DUE.is("logged()", x.logged(), 1);
        x.corrupt(1, 0, 7);
        DUE.is("restart() carries out stripe 1 alone", x.restart(), 5);
        DUE.is("stripe 0 keeps what came after", x.read(0), 40 ^ 7);
        DUE.is("stripe 1", x.read(2), 42);
        DUE.is("stripe 2", x.read(4), 0);
        // The column that is not in the entry is left as it is.
        x.arm(4);
        x.write(2, 50);
        x.corrupt(x.locate(3), 1, 8);
        DUE.is("restart() carries out one column", x.restart(), 4);
        DUE.is("the other column", x.read(3), 43 ^ 8);
    }

    /** "if t + 2 is less than N - 2 - t, the t columns, P and Q; otherwise the other N - 2 - t columns" */
    private static void writingReadsTheCellsOfItsCase() {
        // N, t, cells: each pair around the place where t + 2 and N - 2 - t meet, then the whole stripe.
        int[][] due = {{6, 1, 3}, {7, 1, 3}, {8, 1, 3}, {10, 1, 3}, {7, 2, 3}, {8, 2, 4}, {9, 2, 4}, {10, 2, 4},
            {9, 3, 4}, {10, 3, 5}, {10, 4, 4}, {4, 1, 1}, {5, 1, 2}, {10, 7, 1}, {4, 2, 0}, {7, 5, 0}, {10, 8, 0}};
        for (int[] row : due) {
            for (int first = 0; first + row[1] <= row[0] - 2; first++) {
                DualParityArray x = new DualParityArray(row[0], 1, 0);
                x.writeRun(first, row[1], 5);
                DUE.is("reads() of N = " + row[0] + ", t = " + row[1], x.reads(), row[2]);
            }
        }
    }

    /** "when the t columns, P and Q were what was read by this rule, P plus the sum of the differences" */
    private static void writingByDifferencesKeepsAGap() {
        // N, t, and whether t + 2 is less than N - 2 - t; where both are equal it is not.
        int[][] due = {{4, 1, 0}, {5, 1, 0}, {6, 1, 0}, {7, 1, 1}, {8, 1, 1}, {10, 1, 1}, {7, 2, 0}, {8, 2, 0},
            {9, 2, 1}, {10, 2, 1}, {9, 3, 0}, {10, 3, 0}, {10, 4, 0}, {10, 8, 0}};
        for (int[] row : due) {
            int n = row[0];
            for (int first = 0; first + row[1] <= n - 2; first++) {
                DualParityArray x = withParities(n, 0x100, 0x200);
                x.writeRun(first, row[1], 9);
                int p = row[2] * 0x100;
                int q = row[2] * 0x200;
                for (int i = 0; i < row[1]; i++) {
                    p ^= 9 + i;
                    q ^= times(first + i, 9 + i);
                }
                String what = " of N = " + n + ", t = " + row[1] + " from " + first;
                DUE.is("P" + what, x.peek(n - 1, 0), p);
                DUE.is("Q" + what, x.peek(0, 0), q);
                DUE.is("faults()" + what, x.faults(), row[2]);
            }
        }
    }

    /** "if some cell of the stripe is not available, all its available cells" */
    private static void writingADegradedStripeReadsAllThatIsThere() {
        for (int n = 4; n <= 10; n++) {
            for (int lost = 0; lost < n; lost++) {
                DualParityArray x = new DualParityArray(n, 1, 0);
                x.fail(lost);
                x.write(0, 1);
                DUE.is("reads() for one of " + n + " without " + lost, x.reads(), n - 1);
                x.writeRun(0, n - 2, 1);
                DUE.is("reads() for all of " + n + " without " + lost, x.reads(), 2 * (n - 1));
                x.fail((lost + 1) % n);
                x.writeRun(0, n - 2, 1);
                DUE.is("reads() for all of " + n + " without two", x.reads(), 2 * (n - 1) + n - 2);
            }
        }
        DualParityArray y = new DualParityArray(8, 2, 1);
        y.fail(3);
        y.replace(3);
        y.rebuild();
        int reads = y.reads();
        y.write(0, 1);
        DUE.is("reads() for a stripe before the position", y.reads(), reads + 3);
        y.write(6, 1);
        DUE.is("reads() for the stripe at the position", y.reads(), reads + 3 + 7);
    }

    /** "otherwise what the equations ask of the columns' values, with the new words for the t columns" */
    private static void writingADegradedStripeGoesByTheValues() {
        // Ten disks and one column would go by differences, were column 7 (on disk 8) there; P gives it 5.
        DualParityArray x = withParities(10, 5, 0x200);
        x.fail(8);
        x.write(0, 3);
        DUE.is("P", x.peek(9, 0), 3 ^ 5);
        DUE.is("Q", x.peek(0, 0), 3 ^ times(7, 5));
        DUE.is("faults()", x.faults(), 0);
        DUE.is("read(7)", x.read(7), 5);
        // The column that is lost is the one that is written: its value before does not matter.
        DualParityArray y = withParities(10, 5, 0x200);
        y.fail(8);
        y.write(7, 3);
        DUE.is("P", y.peek(9, 0), 3);
        DUE.is("Q", y.peek(0, 0), times(7, 3));
        DUE.is("read(7)", y.read(7), 3);
        // P is lost: Q is made anew too.
        DualParityArray z = withParities(10, 5, 0x200);
        z.fail(9);
        z.write(0, 3);
        DUE.is("Q without P", z.peek(0, 0), 3);
    }

    /** "t + 2 acts that put .. into the log; an act that seals them; then .. if its cell is available, an act" */
    private static void writingMakesItsActs() {
        for (int n = 4; n <= 10; n++) {
            for (int t = 1; t <= n - 2; t++) {
                DualParityArray x = new DualParityArray(n, 1, 0);
                DUE.is("acts for " + t + " of " + n, x.writeRun(0, t, 1), 2 * t + 6);
                DUE.is("writes()", x.writes(), t + 2);
                x.fail(n - 1);
                DUE.is("acts without P", x.writeRun(0, t, 1), 2 * t + 5);
                x.fail(1);
                DUE.is("acts without P and column 0", x.writeRun(0, t, 1), 2 * t + 4);
                DUE.is("writes()", x.writes(), t + 2 + t + 1 + t);
            }
        }
    }
}
