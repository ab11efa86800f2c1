/** Promises 10 (arm), 11 (crash), 12 (restart), 17 (mode) and 18 (logged). */
public final class StopsTest {
    private static final Due DUE = new Due("StopsTest");

    public static void main(String[] args) {
        armTakesItsNumbers();
        armTakesThePlaceOfTheFormer();
        armCountsActsOverRequests();
        armedThousand();
        stopComesBehindTheReads();
        crashStopsAtOnce();
        restartOfAnEmptyLog();
        restartRefusesInOrder();
        restartKeepsWhatIsArmed();
        restartCanBeTornAtEveryAct();
        restartLeavesOutLostCells();
        unsealedWordsAreLost();
        modeAddsUp();
        loggedTellsTheStripe();
        writeHoleIsClosed();
        tornRunsOverStripes();
        DUE.end();
    }

    private static void armTakesItsNumbers() {
        DualParityArray x = new DualParityArray(4, 1, 0);
        for (int k : new int[] {-1, 1001, Integer.MIN_VALUE, Integer.MAX_VALUE}) {
            DUE.is("arm(" + k + ")", x.arm(k), false);
            DUE.is("mode()", x.mode(), 0);
        }
        for (int k : new int[] {1000, 999, 1, 0}) {
            DUE.is("arm(" + k + ")", x.arm(k), true);
            DUE.is("mode()", x.mode(), 4);
        }
        DUE.is("arm(-1)", x.arm(-1), false);
        DUE.is("mode() still armed", x.mode(), 4);
        DUE.is("write", x.write(0, 1), DualParityArray.TORN);
        DUE.is("arm while DOWN", x.arm(3), true);
        DUE.is("mode()", x.mode(), 5);
        x.fail(0);
        x.fail(1);
        x.fail(2);
        DUE.is("arm while BROKEN", x.arm(4), true);
        DUE.is("mode()", x.mode(), 7);
    }

    private static void armTakesThePlaceOfTheFormer() {
        DualParityArray x = new DualParityArray(4, 1, 0);
        x.arm(0);
        x.arm(8);
        DUE.is("write of 8 acts", x.write(0, 1), 8);
        DUE.is("mode()", x.mode(), 4);
        x.arm(3);
        x.arm(1001);
        DUE.is("the next write", x.write(0, 2), DualParityArray.TORN);
        DUE.is("logged()", x.logged(), -1);
        x.restart();
        DUE.is("read(0)", x.read(0), 1);
    }

    private static void armCountsActsOverRequests() {
        DualParityArray x = new DualParityArray(4, 2, 1);
        x.fail(0);
        x.replace(0);
        x.arm(2 + 1 + 2 + 8);
        DUE.is("rebuild()", x.rebuild(), 1);
        x.corrupt(0, 0, 1);
        DUE.is("scrub(0)", x.scrub(0), 1);
        DUE.is("rebuild()", x.rebuild(), 0);
        DUE.is("read(0)", x.read(0), 0);
        DUE.is("write(0, 1)", x.write(0, 1), 8);
        DUE.is("mode()", x.mode(), 4);
        DUE.is("write(0, 2)", x.write(0, 2), DualParityArray.TORN);
        DUE.is("mode()", x.mode(), 1);
    }

    private static void armedThousand() {
        DualParityArray x = new DualParityArray(4, 16, 0);
        x.arm(1000);
        for (int i = 0; i < 125; i++) {
            DUE.is("write", x.write(i % 32, i), 8);
        }
        DUE.is("the act behind the thousandth", x.write(0, 1), DualParityArray.TORN);
    }

    private static void stopComesBehindTheReads() {
        DualParityArray x = new DualParityArray(10, 2, 0);
        x.arm(0);
        DUE.is("write", x.write(0, 1), DualParityArray.TORN);
        DUE.is("reads()", x.reads(), 3);
        DUE.is("writes()", x.writes(), 0);
        x.restart();
        // 8 acts for column 7 of stripe 0; then stripe 1 is read and stopped before its first act.
        x.arm(8);
        DUE.is("writeRun(7, 2, 1)", x.writeRun(7, 2, 1), DualParityArray.TORN);
        DUE.is("reads()", x.reads(), 9);
        DUE.is("writes()", x.writes(), 3);
        x.restart();
        DUE.is("read(7)", x.read(7), 1);
        DUE.is("read(8)", x.read(8), 0);
        x.arm(7);
        DUE.is("writeRun(7, 2, 1)", x.writeRun(7, 2, 1), DualParityArray.TORN);
        DUE.is("reads() of the first stripe alone", x.reads(), 14);
    }

    private static void crashStopsAtOnce() {
        DualParityArray x = new DualParityArray(4, 1, 0);
        x.arm(5);
        DUE.is("crash()", x.crash(), true);
        DUE.is("mode()", x.mode(), 1);
        DUE.is("crash() again", x.crash(), false);
        x.arm(6);
        DUE.is("crash() when armed while DOWN", x.crash(), false);
        DUE.is("mode() still armed", x.mode(), 5);
        DUE.is("logged()", x.logged(), -1);
        DUE.is("restart()", x.restart(), 0);
        x.fail(0);
        x.fail(1);
        x.fail(2);
        DUE.is("crash() while BROKEN", x.crash(), true);
        DUE.is("mode()", x.mode(), 3);
    }

    private static void restartOfAnEmptyLog() {
        DualParityArray x = new DualParityArray(4, 1, 0);
        x.write(0, 3);
        x.crash();
        DUE.is("restart()", x.restart(), 0);
        DUE.is("mode()", x.mode(), 0);
        DUE.is("read(0)", x.read(0), 3);
        DUE.is("restart() again", x.restart(), DualParityArray.UP);
    }

    private static void restartRefusesInOrder() {
        DualParityArray x = new DualParityArray(4, 1, 4);
        x.arm(5);
        x.write(0, 3);
        DUE.is("writes()", x.writes(), 1);
        x.fail(0);
        x.fail(1);
        x.fail(2);
        x.arm(0);
        DUE.is("restart() while BROKEN", x.restart(), DualParityArray.BROKEN);
        DUE.is("mode()", x.mode(), 7);
        DUE.is("logged()", x.logged(), 0);
        DUE.is("writes()", x.writes(), 1);
        DualParityArray y = new DualParityArray(4, 1, 0);
        y.fail(0);
        y.fail(1);
        y.fail(2);
        DUE.is("restart() while UP and BROKEN", y.restart(), DualParityArray.UP);
    }

    private static void restartKeepsWhatIsArmed() {
        DualParityArray x = new DualParityArray(4, 1, 0);
        x.crash();
        x.arm(0);
        DUE.is("restart() without an act", x.restart(), 0);
        DUE.is("mode()", x.mode(), 4);
        DUE.is("write", x.write(0, 1), DualParityArray.TORN);
        x.restart();
        x.arm(5);
        x.write(0, 1);
        x.arm(4);
        DUE.is("restart() of four acts", x.restart(), 4);
        DUE.is("mode()", x.mode(), 4);
        DUE.is("write", x.write(0, 2), DualParityArray.TORN);
        DUE.is("logged()", x.logged(), -1);
    }

    private static void restartCanBeTornAtEveryAct() {
        DualParityArray x = new DualParityArray(6, 2, 0);
        x.writeRun(0, 8, 70);
        x.arm(5);
        DUE.is("writeRun(5, 2, 90)", x.writeRun(5, 2, 90), DualParityArray.TORN);
        DUE.is("logged()", x.logged(), 1);
        int writes = x.writes();
        for (int k = 0; k < 5; k++) {
            x.arm(k);
            DUE.is("restart()", x.restart(), DualParityArray.TORN);
            DUE.is("mode()", x.mode(), 1);
            DUE.is("logged()", x.logged(), 1);
            writes += k;
            DUE.is("writes()", x.writes(), writes);
            DUE.is("peek of block 5", x.peek(x.locate(5), 1), k > 0 ? 90 : 75);
            DUE.is("peek of block 6", x.peek(x.locate(6), 1), k > 1 ? 91 : 76);
            DUE.is("faults()", x.faults(), k == 0 || k == 4 ? 0 : 1);
        }
        DUE.is("restart()", x.restart(), 5);
        DUE.is("logged()", x.logged(), -1);
        DUE.is("writes()", x.writes(), writes + 4);
        DUE.is("read(5)", x.read(5), 90);
        DUE.is("read(6)", x.read(6), 91);
        x.crash();
        DUE.is("restart() of the emptied log", x.restart(), 0);
    }

    private static void restartLeavesOutLostCells() {
        // Of 4 disks in stripe 0: Q on 0, the columns on 1 and 2, P on 3.
        DualParityArray x = new DualParityArray(4, 1, 2);
        x.writeRun(0, 2, 5);
        x.arm(4);
        x.write(0, 8);
        x.fail(1);
        x.fail(3);
        x.replace(3);
        DUE.is("restart() with Q alone", x.restart(), 2);
        DUE.is("read(0)", x.read(0), 8);
        DUE.is("read(1)", x.read(1), 6);
        DUE.is("faults()", x.faults(), 0);
        DualParityArray y = new DualParityArray(4, 2, 1);
        y.fail(1);
        y.replace(1);
        y.rebuild();
        y.arm(4);
        y.write(0, 8);
        DUE.is("restart() behind the position", y.restart(), 4);
        DUE.is("peek", y.peek(1, 0), 8);
    }

    private static void unsealedWordsAreLost() {
        for (int k = 0; k < 5; k++) {
            DualParityArray x = new DualParityArray(6, 1, 0);
            x.writeRun(0, 4, 30);
            int writes = x.writes();
            x.arm(k);
            DUE.is("writeRun", x.writeRun(1, 2, 60), DualParityArray.TORN);
            DUE.is("logged()", x.logged(), -1);
            DUE.is("restart()", x.restart(), 0);
            DUE.is("read(1)", x.read(1), 31);
            DUE.is("read(2)", x.read(2), 32);
            DUE.is("faults()", x.faults(), 0);
            DUE.is("writes()", x.writes(), writes);
        }
    }

    private static void modeAddsUp() {
        DualParityArray x = new DualParityArray(5, 1, 0);
        DUE.is("mode()", x.mode(), 0);
        x.arm(1);
        DUE.is("armed", x.mode(), 4);
        x.fail(0);
        x.fail(1);
        DUE.is("two missing", x.mode(), 4);
        x.fail(2);
        DUE.is("three missing", x.mode(), 6);
        x.crash();
        DUE.is("DOWN", x.mode(), 3);
        x.arm(1);
        DUE.is("all", x.mode(), 7);
    }

    private static void loggedTellsTheStripe() {
        for (int s = 0; s < 16; s++) {
            DualParityArray x = new DualParityArray(4, 16, 0);
            x.arm(4);
            x.write(2 * s, 1);
            DUE.is("logged()", x.logged(), s);
            x.restart();
            DUE.is("logged() after restart()", x.logged(), -1);
            x.write(2 * s, 2);
            DUE.is("logged() after a write", x.logged(), -1);
        }
    }

    private static void writeHoleIsClosed() {
        for (int n = 4; n <= 10; n++) {
            for (int t = 1; t <= n - 2; t++) {
                for (int k = 0; k <= 2 * t + 6; k++) {
                    for (int lost = 0; lost < n; lost++) {
                        tornWrite(n, t, k, lost);
                    }
                }
            }
        }
    }

    /** One disk is missing before the write stops after k acts, and another one is lost before the restart. */
    private static void tornWrite(int n, int t, int k, int lost) {
        DualParityArray x = new DualParityArray(n, 1, 0);
        x.writeRun(0, n - 2, 1000);
        x.fail((lost + 2) % n);
        x.arm(k);
        int answer = x.writeRun(0, t, 5000);
        boolean torn = answer == DualParityArray.TORN;
        if (!torn) {
            DUE.is("the write was not torn by " + k, answer <= k, true);
            x.crash();
        }
        boolean sealed = k > t + 2;
        DUE.is("logged()", x.logged(), torn && sealed ? 0 : -1);
        x.fail(lost);
        DUE.is("restart()", x.restart() >= 0, true);
        for (int column = 0; column < n - 2; column++) {
            long want = column < t && sealed ? 5000 + column : 1000 + column;
            DUE.is("read(" + column + ") of " + n + ", " + t + " written, stop " + k, x.read(column), want);
        }
        DUE.is("faults()", x.faults(), 0);
    }

    private static void tornRunsOverStripes() {
        // 4 disks: column 1 of stripe 0, both of stripe 1, column 0 of stripe 2: 8, 10 and 8 acts.
        for (int k = 0; k <= 26; k++) {
            DualParityArray x = new DualParityArray(4, 3, 0);
            x.writeRun(0, 6, 10);
            x.arm(k);
            DUE.is("writeRun", x.writeRun(1, 4, 50), k < 26 ? DualParityArray.TORN : 26);
            int inLog = k >= 4 && k < 8 ? 0 : k >= 13 && k < 18 ? 1 : k >= 22 && k < 26 ? 2 : -1;
            DUE.is("logged() after " + k, x.logged(), inLog);
            x.restart();
            DUE.is("read(1)", x.read(1), k >= 4 ? 50 : 11);
            DUE.is("read(2)", x.read(2), k >= 13 ? 51 : 12);
            DUE.is("read(3)", x.read(3), k >= 13 ? 52 : 13);
            DUE.is("read(4)", x.read(4), k >= 22 ? 53 : 14);
            DUE.is("read(0)", x.read(0), 10);
            DUE.is("read(5)", x.read(5), 15);
            DUE.is("faults()", x.faults(), 0);
        }
    }
}
