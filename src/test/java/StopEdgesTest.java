/** The edges of promises 10 (arm), 11 (crash), 12 (restart), 17 (mode) and 18 (logged). */
public final class StopEdgesTest {
    private static final Due DUE = new Due("StopEdgesTest");

    public static void main(String[] args) {
        armTakesNoneToAThousand();
        armRefusesTheNumbersOutside();
        armTakesThePlaceOfWhatWasArmed();
        armWorksInEveryState();
        armCountsNothingButActs();
        armOutlivesTheRequestThatUsesItUp();
        crashDisarms();
        crashIsRefusedWhileDown();
        crashWorksWhileBroken();
        restartOfAnEmptyLogMakesNoAct();
        restartCarriesOutEveryEntry();
        restartIsTornAtEachAct();
        restartWritesTheCellsAvailableNow();
        restartRefusesUpThenBroken();
        restartKeepsWhatIsArmed();
        modeTakesEachOfItsEightValues();
        loggedTellsNoneAndEachStripe();
        loggedFromTheSealToTheRemoval();
        DUE.end();
    }

    private static void breakIt(DualParityArray x) {
        x.fail(0);
        x.fail(1);
        x.fail(2);
    }

    /** "After k further acts the array stops in place of the next one"; k is 0 .. 1000. */
    private static void armTakesNoneToAThousand() {
        DualParityArray x = new DualParityArray(10, 16, 0);
        DUE.is("arm(0)", x.arm(0), true);
        DUE.is("write in place of the first act", x.write(0, 1), DualParityArray.TORN);
        x.restart();
        DUE.is("arm(1)", x.arm(1), true);
        DUE.is("write in place of the second act", x.write(0, 1), DualParityArray.TORN);
        x.restart();
        // A run over all is 16 * 22 = 352 acts; 2 * 352 + 13 * 22 + 10 = 1000.
        DUE.is("arm(1000)", x.arm(1000), true);
        DUE.is("352 acts", x.writeRun(0, 128, 1), 352);
        DUE.is("704 acts", x.writeRun(0, 128, 1), 352);
        DUE.is("990 acts", x.writeRun(0, 104, 1), 286);
        DUE.is("1000 acts", x.writeRun(0, 2, 1), 10);
        DUE.is("mode()", x.mode(), 4);
        DUE.is("write in place of act 1001", x.write(0, 1), DualParityArray.TORN);
        DUE.is("mode()", x.mode(), 1);
        x.restart();
        x.arm(999);
        x.writeRun(0, 128, 1);
        x.writeRun(0, 128, 1);
        x.writeRun(0, 104, 1);
        DUE.is("arm(999)", x.writeRun(0, 2, 1), DualParityArray.TORN);
    }

    /** "False, changing nothing, when k is not 0 .. 1000." */
    private static void armRefusesTheNumbersOutside() {
        for (int k : new int[] {-1, 1001, Integer.MIN_VALUE, Integer.MAX_VALUE}) {
            DualParityArray x = new DualParityArray(4, 1, 0);
            DUE.is("arm(" + k + ")", x.arm(k), false);
            DUE.is("mode() with nothing armed", x.mode(), 0);
            DUE.is("write", x.write(0, 1), 8);
            x.arm(8);
            DUE.is("arm(" + k + ") again", x.arm(k), false);
            DUE.is("mode() with a stop armed", x.mode(), 4);
            DUE.is("the stop that was armed: eight acts more", x.write(0, 1), 8);
            DUE.is("the stop that was armed: no more", x.write(0, 1), DualParityArray.TORN);
        }
    }

    /** "this takes the place of what was armed before" */
    private static void armTakesThePlaceOfWhatWasArmed() {
        DualParityArray x = new DualParityArray(4, 1, 0);
        x.arm(0);
        x.arm(8);
        DUE.is("a later stop", x.write(0, 1), 8);
        x.arm(1000);
        x.arm(0);
        DUE.is("an earlier stop", x.write(0, 1), DualParityArray.TORN);
        x.restart();
        x.arm(10);
        x.write(0, 1);
        x.arm(10);
        DUE.is("counted from the last arm on", x.write(0, 1), 8);
        DUE.is("two acts are left", x.write(0, 1), DualParityArray.TORN);
    }

    /** "whatever state the array is in: true" */
    private static void armWorksInEveryState() {
        DualParityArray x = new DualParityArray(5, 1, 0);
        x.crash();
        DUE.is("arm(0) while DOWN", x.arm(0), true);
        DUE.is("mode()", x.mode(), 5);
        breakIt(x);
        DUE.is("arm(1000) while DOWN and BROKEN", x.arm(1000), true);
        DUE.is("mode()", x.mode(), 7);
        DualParityArray y = new DualParityArray(5, 1, 0);
        breakIt(y);
        DUE.is("arm(0) while BROKEN", y.arm(0), true);
        DUE.is("mode()", y.mode(), 6);
    }

    /** Only acts bring the stop nearer: no read, look, failure, spare, corruption or refusal does. */
    private static void armCountsNothingButActs() {
        DualParityArray x = new DualParityArray(6, 2, 1);
        x.arm(0);
        DUE.is("read(0)", x.read(0), 0);
        DUE.is("scrub(0)", x.scrub(0), 0);
        DUE.is("rebuild()", x.rebuild(), DualParityArray.IDLE);
        DUE.is("restart()", x.restart(), DualParityArray.UP);
        DUE.is("write(8, 1)", x.write(8, 1), DualParityArray.BAD);
        DUE.is("corrupt(0, 0, 0)", x.corrupt(0, 0, 0), true);
        DUE.is("faults()", x.faults(), 0);
        DUE.is("peek(0, 0)", x.peek(0, 0), 0);
        DUE.is("fail(0)", x.fail(0), true);
        DUE.is("read(0)", x.read(0), 0);
        DUE.is("replace(0)", x.replace(0), true);
        DUE.is("mode() still", x.mode(), 4);
        DUE.is("rebuild() in place of the first act", x.rebuild(), DualParityArray.TORN);
        DUE.is("mode()", x.mode(), 1);
    }

    /** A request whose last act is the k-th ends well; the stop takes the place of the next request's first act. */
    private static void armOutlivesTheRequestThatUsesItUp() {
        DualParityArray x = new DualParityArray(6, 2, 1);
        x.arm(8);
        DUE.is("write of eight acts", x.write(0, 1), 8);
        DUE.is("mode()", x.mode(), 4);
        DUE.is("logged()", x.logged(), -1);
        x.fail(0);
        x.replace(0);
        DUE.is("rebuild()", x.rebuild(), DualParityArray.TORN);
        DUE.is("position(0)", x.position(0), 0);
        x.restart();
        x.arm(2);
        DUE.is("rebuild() of two acts", x.rebuild(), 1);
        x.corrupt(1, 0, 1);
        DUE.is("scrub(0)", x.scrub(0), DualParityArray.TORN);
        x.restart();
        x.arm(1);
        DUE.is("scrub(0) of one act", x.scrub(0), 2);
        DUE.is("write", x.write(0, 1), DualParityArray.TORN);
    }

    /** "The array is DOWN at once, and nothing is armed any more" */
    private static void crashDisarms() {
        DualParityArray x = new DualParityArray(4, 1, 0);
        x.arm(0);
        DUE.is("crash()", x.crash(), true);
        DUE.is("mode()", x.mode(), 1);
        DUE.is("reads()", x.reads(), 0);
        DUE.is("restart()", x.restart(), 0);
        DUE.is("write with nothing armed", x.write(0, 1), 8);
        DUE.is("crash() with nothing armed", x.crash(), true);
        DUE.is("mode()", x.mode(), 1);
    }

    /** "false, changing nothing, when it is DOWN already" */
    private static void crashIsRefusedWhileDown() {
        DualParityArray x = new DualParityArray(4, 1, 0);
        x.crash();
        DUE.is("crash() after crash()", x.crash(), false);
        x.restart();
        x.arm(4);
        x.write(0, 6);
        DUE.is("crash() after a stop", x.crash(), false);
        DUE.is("logged()", x.logged(), 0);
        x.arm(1);
        DUE.is("crash() while a stop is armed", x.crash(), false);
        DUE.is("mode()", x.mode(), 5);
        DUE.is("restart() is still torn", x.restart(), DualParityArray.TORN);
        DUE.is("restart()", x.restart(), 4);
        DUE.is("read(0)", x.read(0), 6);
    }

    private static void crashWorksWhileBroken() {
        DualParityArray x = new DualParityArray(4, 1, 0);
        breakIt(x);
        DUE.is("crash()", x.crash(), true);
        DUE.is("mode()", x.mode(), 3);
        DUE.is("crash() again", x.crash(), false);
    }

    /** "If the log has a sealed entry": without one the array is up again, with no act made. */
    private static void restartOfAnEmptyLogMakesNoAct() {
        DualParityArray x = new DualParityArray(4, 1, 0);
        x.crash();
        x.arm(0);
        DUE.is("restart() with arm(0)", x.restart(), 0);
        DUE.is("mode()", x.mode(), 4);
        DUE.is("writes()", x.writes(), 0);
        // Three words in the log and no seal.
        DUE.is("write", x.arm(3) ? x.write(0, 1) : 0, DualParityArray.TORN);
        DUE.is("restart() with words that are not sealed", x.restart(), 0);
        DUE.is("read(0)", x.read(0), 0);
    }

    /** "for its columns in ascending order, then P, then Q .. an act writes the entry's word; then an act removes" */
    private static void restartCarriesOutEveryEntry() {
        for (int n = 4; n <= 10; n++) {
            for (int first = 0; first < n - 2; first++) {
                for (int t = 1; first + t <= n - 2; t++) {
                    DualParityArray x = new DualParityArray(n, 2, 0);
                    x.writeRun(0, 2 * (n - 2), 200);
                    x.arm(t + 3);
                    x.writeRun(n - 2 + first, t, 900);
                    String what = " of " + t + " columns from " + first + " of " + n;
                    DUE.is("logged()" + what, x.logged(), 1);
                    DUE.is("restart()" + what, x.restart(), t + 3);
                    DUE.is("writes()" + what, x.writes(), 2 * n + t + 2);
                    for (int i = 0; i < n - 2; i++) {
                        boolean inside = i >= first && i < first + t;
                        long due = inside ? 900 + i - first : 200 + n - 2 + i;
                        DUE.is("column " + i + what, x.read(n - 2 + i), due);
                    }
                    DUE.is("faults()" + what, x.faults(), 0);
                }
            }
        }
    }

    /** "TORN when the array stopped on the way (it stays DOWN, and the entry sealed)" */
    private static void restartIsTornAtEachAct() {
        // Of 5 disks in stripe 0: Q on 0, columns on 1 to 3, P on 4. Columns 1 and 2 are written.
        for (int k = 0; k <= 5; k++) {
            DualParityArray x = new DualParityArray(5, 1, 0);
            x.arm(5);
            x.writeRun(1, 2, 0x80);
            x.arm(k);
            boolean torn = k < 5;
            DUE.is("restart(), arm(" + k + ")", x.restart(), torn ? DualParityArray.TORN : 5);
            DUE.is("mode(), arm(" + k + ")", x.mode(), torn ? 1 : 4);
            DUE.is("logged(), arm(" + k + ")", x.logged(), torn ? 0 : -1);
            DUE.is("writes(), arm(" + k + ")", x.writes(), Math.min(k, 4));
            DUE.is("column 0, arm(" + k + ")", x.peek(1, 0), 0);
            DUE.is("column 1, arm(" + k + ")", x.peek(2, 0), k >= 1 ? 0x80 : 0);
            DUE.is("column 2, arm(" + k + ")", x.peek(3, 0), k >= 2 ? 0x81 : 0);
            DUE.is("P, arm(" + k + ")", x.peek(4, 0), k >= 3 ? 1 : 0);
            // 2 times 80 is 1D; 4 times 81 is 3A and 4.
            DUE.is("Q, arm(" + k + ")", x.peek(0, 0), k >= 4 ? 0x1D ^ 0x3E : 0);
            if (torn) {
                DUE.is("restart() again, from the beginning", x.restart(), 5);
                DUE.is("read(2)", x.read(2), 0x81);
                DUE.is("faults()", x.faults(), 0);
            }
        }
    }

    /** "if the cell is available now": not as it was when the entry was sealed. */
    private static void restartWritesTheCellsAvailableNow() {
        // Of 5 disks in stripe 0: Q on 0, columns on 1 to 3, P on 4.
        int[][] lost = {{1}, {4}, {0}, {2}, {1, 4}, {1, 0}, {4, 0}, {2, 3}};
        int[] due = {3, 3, 3, 4, 2, 2, 2, 4};
        for (int i = 0; i < lost.length; i++) {
            DualParityArray x = new DualParityArray(5, 1, 4);
            x.writeRun(0, 3, 30);
            x.arm(4);
            x.write(0, 99);
            for (int d : lost[i]) {
                x.fail(d);
                x.replace(d);
            }
            int writes = x.writes();
            DUE.is("restart(), case " + i, x.restart(), due[i]);
            DUE.is("writes(), case " + i, x.writes(), writes + due[i] - 1);
            DUE.is("read(0), case " + i, x.read(0), 99);
            DUE.is("read(1), case " + i, x.read(1), 31);
            DUE.is("faults(), case " + i, x.faults(), 0);
        }
        // A disk that is past the stripe is written, one that is at the stripe is not.
        DualParityArray y = new DualParityArray(5, 2, 1);
        y.fail(1);
        y.replace(1);
        y.rebuild();
        y.arm(4);
        y.write(0, 99);
        DUE.is("restart() for the stripe before the position", y.restart(), 4);
        DUE.is("peek(1, 0)", y.peek(1, 0), 99);
        // Block 4 is column 1 of stripe 1, on disk 1.
        y.arm(4);
        y.write(4, 98);
        DUE.is("restart() for the stripe at the position", y.restart(), 3);
        DUE.is("peek(1, 1)", y.peek(1, 1), DualParityArray.BAD);
        DUE.is("read(4)", y.read(4), 98);
    }

    /** "UP when the array is not DOWN; else BROKEN when it is BROKEN." */
    private static void restartRefusesUpThenBroken() {
        DualParityArray x = new DualParityArray(5, 1, 4);
        DUE.is("restart() while up", x.restart(), DualParityArray.UP);
        x.fail(0);
        x.fail(1);
        x.crash();
        DUE.is("restart() with two missing", x.restart(), 0);
        x.fail(2);
        DUE.is("restart() while up and BROKEN", x.restart(), DualParityArray.UP);
        x.crash();
        DUE.is("restart() while DOWN and BROKEN", x.restart(), DualParityArray.BROKEN);
        DUE.is("mode()", x.mode(), 3);
        x.replace(0);
        x.replace(1);
        x.replace(2);
        DUE.is("restart() with three REBUILDING", x.restart(), DualParityArray.BROKEN);
        DualParityArray y = new DualParityArray(5, 1, 0);
        y.arm(5);
        y.write(0, 1);
        y.arm(0);
        breakIt(y);
        DUE.is("restart() with a sealed entry while BROKEN", y.restart(), DualParityArray.BROKEN);
        DUE.is("logged()", y.logged(), 0);
        DUE.is("writes()", y.writes(), 1);
        DUE.is("mode()", y.mode(), 7);
    }

    private static void restartKeepsWhatIsArmed() {
        DualParityArray x = new DualParityArray(4, 1, 0);
        x.arm(4);
        x.write(0, 5);
        x.arm(5);
        DUE.is("restart() of four acts", x.restart(), 4);
        DUE.is("mode()", x.mode(), 4);
        DUE.is("write with one act left", x.write(0, 6), DualParityArray.TORN);
        DUE.is("logged()", x.logged(), -1);
    }

    /** "1 when the array is DOWN, plus 2 when it is BROKEN, plus 4 when a stop is armed" */
    private static void modeTakesEachOfItsEightValues() {
        for (int mode = 0; mode < 8; mode++) {
            DualParityArray x = new DualParityArray(4, 1, 0);
            if ((mode & 1) != 0) {
                x.crash();
            }
            if ((mode & 2) != 0) {
                breakIt(x);
            }
            if ((mode & 4) != 0) {
                x.arm(0);
            }
            DUE.is("mode()", x.mode(), mode);
            DUE.is("mode() again", x.mode(), mode);
        }
    }

    /** "The stripe of the sealed entry of the log; -1 when there is none." */
    private static void loggedTellsNoneAndEachStripe() {
        for (int s = 0; s < 16; s++) {
            DualParityArray x = new DualParityArray(10, 16, 0);
            DUE.is("logged() of none", x.logged(), -1);
            x.arm(4);
            x.write(8 * s, 1);
            DUE.is("logged()", x.logged(), s);
            breakIt(x);
            DUE.is("logged() while BROKEN", x.logged(), s);
        }
    }

    private static void loggedFromTheSealToTheRemoval() {
        for (int k = 0; k <= 8; k++) {
            DualParityArray x = new DualParityArray(4, 3, 0);
            x.arm(k);
            x.write(5, 1);
            DUE.is("logged(), arm(" + k + ")", x.logged(), k >= 4 && k < 8 ? 2 : -1);
            x.restart();
            DUE.is("logged() after restart()", x.logged(), -1);
        }
    }
}
